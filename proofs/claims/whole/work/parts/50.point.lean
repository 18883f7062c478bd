theorem pt_1 (o : St) (p3 p4 s2 v5 v6 v7 v8 : Int32) : ∃ b, f_Mo_point_J89 o p3 p4 0 s2 v5 v6 v7 v8 = some (b, up2 o 0 0 1) := by
  unfold f_Mo_point_J89 f_Mo_point_J121
  rcases wi_cases p3 0 10000 with e | e <;> rw [e]
  · exact ⟨0, rfl⟩
  · rcases wi_cases p4 1 1000 with e | e <;> rw [e]
    · exact ⟨0, rfl⟩
    · rw [xv1_s, if_neg n10, xv1_s, if_neg n10]
      split <;> exact ⟨0, rfl⟩
theorem pt_2 (o : St) (p3 p4 v5 v6 v7 v8 : Int32) : ∃ b, f_Mo_point_J89 o p3 p4 1 0 v5 v6 v7 v8 = some (b, up2 o 0 0 2) := by
  unfold f_Mo_point_J89 f_Mo_point_J121
  rcases wi_cases p3 0 10000 with e | e <;> rw [e]
  · exact ⟨0, rfl⟩
  · rcases wi_cases p4 1 1000 with e | e <;> rw [e]
    · exact ⟨0, rfl⟩
    · rw [xv1_s, if_neg n10, xv1_s, if_neg n10]
      split <;> exact ⟨0, rfl⟩
theorem isrow {o : St} {rn : Nat → Nat} (f1 : ∀ k, k < 4 → rn k ≤ 8 ∧ o 4 k = nI (rn k)) (p1 p2 : Int32) : (∃ k r : Nat, k < 4 ∧ r < rn k ∧ p1 = nI k ∧ p2 = nI r ∧ f_Mo_isRow o p1 p2 = some 1) ∨ ((¬ (¬ p1 < 0 ∧ p1 < 4) ∨ ∃ k, k < 4 ∧ p1 = nI k ∧ ¬ (¬ p2 < 0 ∧ p2 < nI (rn k))) ∧ f_Mo_isRow o p1 p2 = some 0) := by
  unfold f_Mo_isRow
  by_cases hv : ¬ p1 < 0 ∧ p1 < 4
  · have hv2 : p1 ≤ 3 := by rw [i_le]; have := i_lt.mp hv.2; have e3 : (4 : Int32).toInt = 4 := rfl; have e2 : (3 : Int32).toInt = 3 := rfl; omega
    obtain ⟨k, hk, rfl⟩ := ix_of (n := 4) (by decide) hv.1 hv.2
    obtain ⟨r1, r3⟩ := f1 k hk
    rw [wi_ok hv.1 hv2, xv1_s, if_neg n10, gb_t (inb_of (show k < 4 from hk) (by decide)), cl_nI (show k < 2 ^ 31 by omega), r3]
    simp only [letb]
    by_cases hw : ¬ p2 < 0 ∧ p2 < nI (rn k)
    · obtain ⟨r, hr, rfl⟩ := ix_of (by omega) hw.1 hw.2
      rw [if_neg hw.1, if_neg (Int32.not_le.mpr hw.2)]
      exact Or.inl ⟨k, r, hk, hr, rfl, rfl, rfl⟩
    · refine Or.inr ⟨Or.inr ⟨k, hk, rfl, hw⟩, ?_⟩
      by_cases h0 : p2 < 0
      · rw [if_pos h0]
      · rw [if_neg h0, if_pos (Int32.not_lt.mp (fun q => hw ⟨h0, q⟩))]
  · have hv2 : ¬ (¬ p1 < 0 ∧ p1 ≤ 3) := fun q => hv ⟨q.1, by rw [i_lt]; have := i_le.mp q.2; have e3 : (4 : Int32).toInt = 4 := rfl; have e2 : (3 : Int32).toInt = 3 := rfl; omega⟩
    rw [wi_no hv2, xv1_s, if_pos rfl]
    exact Or.inr ⟨Or.inl hv, rfl⟩
theorem place_ok {f : St} {rn : Nat → Nat} {k r : Nat} (hk : k < 4) (hr : r < rn k) (h8 : rn k ≤ 8) (h : f 1 k = nI (rn k)) : f_Fo_placeOf f (nI k) (nI r) = some (.inl (nI (8 * k + r))) := by
  unfold f_Fo_placeOf
  rw [rIndex_ok (nI_pos (by omega)) (show nI k < 4 from nI_lt (b := 4) hk (by decide)), xc0_l, gb_t (inb_of hk (by decide)), cl_nI (show k < 2 ^ 31 by omega), h]
  simp only [letb]
  rw [rIndex_ok (nI_pos (by omega)) (nI_lt hr (by omega)), xc0_l, nI8', nI_add]
theorem place_no {f : St} {rn : Nat → Nat} {p1 p2 : Int32} (f1 : ∀ k, k < 4 → f 1 k = nI (rn k)) (h : ¬ (¬ p1 < 0 ∧ p1 < 4) ∨ ∃ k, k < 4 ∧ p1 = nI k ∧ ¬ (¬ p2 < 0 ∧ p2 < nI (rn k))) : f_Fo_placeOf f p1 p2 = some (.inr xIOE) := by
  unfold f_Fo_placeOf
  by_cases hv : ¬ p1 < 0 ∧ p1 < 4
  · rcases h with h | ⟨k, hk, rfl, hw⟩
    · exact absurd hv h
    · rw [rIndex_ok hv.1 hv.2, xc0_l, gb_t (inb_of hk (by decide)), cl_nI (show k < 2 ^ 31 by omega), f1 k hk]
      simp only [letb]
      rw [rIndex_no hw]
      rfl
  · rw [rIndex_no hv]
    rfl
theorem rise0_iff {x : Int32} {k : Nat} (hk : k < 2 ^ 30) : (¬ x < nI k + 1) ↔ (¬ x < 0 ∧ ¬ x ≤ nI k) := by
  rw [nIp1, i_lt, i_lt, i_le, nI_toInt (by omega), nI_toInt (by omega), show (0 : Int32).toInt = 0 from rfl]
  omega
theorem op_point {gGo gFo gPk : St} {qPk : Int64} {gSk gAi gSh gJo o : St} (h : INV gGo gFo gPk qPk gSk gAi gSh gJo o) (p1 p2 p3 p4 : Int32) : AGR [(xIOE, 1), (xISE, 2), (xIAE, 3)] (f_Cc_point gGo gFo gPk qPk gSk gAi gSh gJo p1 p2 p3 p4) (f_Mo_point o p1 p2 p3 p4) o (fun x o' => INV gGo x gPk qPk gSk gAi gSh gJo o') := by
  obtain ⟨hG, ⟨rn, pn, th, st, vl, f1, f2, f3, f4, f5, f6⟩, hP, hS, hA, hH, hJ⟩ := h
  unfold f_Cc_point f_Fo_addPoint f_Mo_point
  rcases isrow (o := o) (rn := rn) (fun k hk => ⟨(f1 k hk).1, (f1 k hk).2.2⟩) p1 p2 with ⟨k, r, hk, hr, rfl, rfl, hrow⟩ | ⟨hno, hrow⟩
  · have hr8 := (f1 k hk).1
    rw [place_ok hk hr hr8 (f1 k hk).2.1, hrow, xc1_l, xv1_s, if_neg n10, nI8, nI_add]
    generalize ha : 8 * k + r = a
    have ha32 : a < 32 := by omega
    obtain ⟨g1, g2, g3⟩ := f2 a ha32
    have hin : inb (nI a) 32 = true := inb_of ha32 (by decide)
    have hcl : (nI a).toNatClampNeg = a := cl_nI (by omega)
    unfold f_Mo_point_J23
    rw [if_neg n10, gb_t hin, gb_t hin, hcl, g2, g3]
    simp only [letb]
    rw [nI6', nI_add]
    by_cases h6 : pn a = 6
    · rw [h6, rRoom_no (by decide)]
      have hin5 : inb (nI (6 * a + 5)) 192 = true := inb_of (by omega) (by decide)
      have hm : ∃ b, f_Mo_point_J41 o p3 p4 (nI 6) 1 (nI a) = some (b, up2 o 0 0 2) := by
        unfold f_Mo_point_J41 f_Mo_point_J67 f_Mo_point_J72
        rw [if_neg (show ¬ nI 6 = 0 by decide), nI6, nI_add, show 6 * a + 6 = (6 * a + 5) + 1 by omega, nIs1, gb_t hin5]
        simp only [letb, if_pos (show (6 : Int32) ≤ nI 6 by decide)]
        split
        · exact pt_2 o p3 p4 1 (nI a) (nI 6) 0
        · exact pt_2 o p3 p4 1 (nI a) (nI 6) 1
      obtain ⟨b, hb⟩ := hm
      rw [hb]
      exact Or.inl ⟨xISE, 2, b, by simp, rfl, rfl⟩
    · have hlt : nI (pn a) < 6 := nI_lt (b := 6) (by omega) (by decide)
      have hin2 : inb (nI (6 * a + pn a)) 192 = true := inb_of (by omega) (by decide)
      have hcl2 : (nI (6 * a + pn a)).toNatClampNeg = 6 * a + pn a := cl_nI (by omega)
      rw [rRoom_ok hlt, xc0_l]
      have good : ∀ s0 : Int32, ¬ p3 < s0 + 1 → ¬ p3 < 0 → p3 ≤ 10000 → ¬ p4 < 1 → p4 ≤ 1000 → (∀ i, i < pn a → nI (st (6 * a + i)) < p3) → AGR [(xIOE, 1), (xISE, 2), (xIAE, 3)] (xc2 (f_Fo_addPoint_J52 gFo p3 p4 s0 (nI a) (nI (pn a)) (nI (6 * a + pn a))) (fun r_1 gFo_2 => some (.inl (r_1, gFo_2)))) (f_Mo_point_J122 o p3 p4 1 1 1 1 (nI a) (nI (pn a)) 1) o (fun x o' => INV gGo x gPk qPk gSk gAi gSh gJo o') := by
        intro s0 w1 w0 w2 u1 u2 hris
        have hc : f_Fo_addPoint_J52 gFo p3 p4 s0 (nI a) (nI (pn a)) (nI (6 * a + pn a)) = some (.inl (nI (pn a + 1), up2 (up2 (up2 gFo 4 (6 * a + pn a) p3) 5 (6 * a + pn a) p4) 3 a (nI (pn a + 1)))) := by
          unfold f_Fo_addPoint_J52
          rw [rRange_ok w1 w2, rRange_ok u1 u2, xc0_l, xc0_l, gb_t hin2]
          simp only [letb, gb_t hin, gb_t hin2, hcl, hcl2, nIp1]
        have hm : f_Mo_point_J122 o p3 p4 1 1 1 1 (nI a) (nI (pn a)) 1 = some (nI (pn a + 1), up2 (up2 (up2 (up2 o 0 0 0) 7 (6 * a + pn a) p3) 8 (6 * a + pn a) p4) 6 a (nI (pn a + 1))) := by
          unfold f_Mo_point_J122
          rw [goes_ok, xv2_s, if_neg n10]
          simp only [letb, nI6, nI_add, gb_t hin, gb_t hin2, hcl, hcl2]
          rw [show up2 (up2 (up2 o 0 0 0) 7 (6 * a + pn a) p3) 8 (6 * a + pn a) p4 6 a = nI (pn a) from g3, nIp1]
        rw [hc, hm]
        obtain ⟨s, s1, s2, rfl⟩ := i_range (a := 0) (b := 10000) (by decide) w0 w2 (by decide)
        obtain ⟨v, v1, v2, rfl⟩ := i_range (a := 1) (b := 1000) (by decide) u1 u2 (by decide)
        refine Or.inr ⟨nI (pn a + 1), up2 (up2 (up2 gFo 4 (6 * a + pn a) (nI s)) 5 (6 * a + pn a) (nI v)) 3 a (nI (pn a + 1)), up2 (up2 (up2 (up2 o 0 0 0) 7 (6 * a + pn a) (nI s)) 8 (6 * a + pn a) (nI v)) 6 a (nI (pn a + 1)), rfl, rfl, rfl, hG, ⟨rn, fun i => if i = a then pn a + 1 else pn i, th, fun q => if q = 6 * a + pn a then s else st q, fun q => if q = 6 * a + pn a then v else vl q, f1, ?_, f3, ?_, ?_, ?_⟩, hP, hS, hA, hH, hJ⟩
        · intro i hi
          by_cases hia : i = a
          · subst hia
            simp [up2_at]
            omega
          · simp [up2_at, hia]
            exact f2 i hi
        · intro q hq
          by_cases hqa : q = 6 * a + pn a
          · subst hqa
            simp [up2_at]
            omega
          · simp [up2_at, hqa]
            exact f4 q hq
        · intro b i j hb hij hj
          by_cases hba : b = a
          · subst hba
            simp only [if_true] at hj
            have e1 : ¬ 6 * b + i = 6 * b + pn b := by omega
            by_cases hjl : j = pn b
            · subst hjl
              simp only [e1, if_false, if_true]
              have := hris i (by omega)
              rw [nI_ltI (by have := (f4 (6 * b + i) (by omega)).1; omega) (by omega)] at this
              exact this
            · have e2 : ¬ 6 * b + j = 6 * b + pn b := by omega
              simp only [e1, e2, if_false]
              exact f5 b i j hb hij (by omega)
          · simp only [hba, if_false] at hj
            have hpb := (f2 b hb).1
            have e1 : ¬ 6 * b + i = 6 * a + pn a := by omega
            have e2 : ¬ 6 * b + j = 6 * a + pn a := by omega
            simp only [e1, e2, if_false]
            exact f5 b i j hb hij hj
        · intro b i hb hi
          by_cases hba : b = a
          · subst hba
            simp only [if_true] at hi
            by_cases hil : i = pn b
            · subst hil
              simp only [if_true]
              exact v1
            · have e1 : ¬ 6 * b + i = 6 * b + pn b := by omega
              simp only [e1, if_false]
              exact f6 b i hb (by omega)
          · simp only [hba, if_false] at hi
            have hpb := (f2 b hb).1
            have e1 : ¬ 6 * b + i = 6 * a + pn a := by omega
            simp only [e1, if_false]
            exact f6 b i hb hi
      have bad : ∀ s0 : Int32, ¬ ((¬ p3 < s0 + 1 ∧ p3 ≤ 10000) ∧ (¬ p4 < 1 ∧ p4 ≤ 1000)) → f_Fo_addPoint_J52 gFo p3 p4 s0 (nI a) (nI (pn a)) (nI (6 * a + pn a)) = some (.inr xIAE) := by
        intro s0 w
        unfold f_Fo_addPoint_J52
        by_cases c : ¬ p3 < s0 + 1 ∧ p3 ≤ 10000
        · rw [rRange_ok c.1 c.2, rRange_no (fun q => w ⟨c, q⟩)]
          rfl
        · rw [rRange_no c]
          rfl
      have fin : ∀ (s0 : Int32) (R : Prop), (R ∨ ¬ R) → ((¬ p3 < s0 + 1) ↔ (¬ p3 < 0 ∧ R)) → (R → ∀ i, i < pn a → nI (st (6 * a + i)) < p3) → ∀ v8 : Int32, (v8 = 1 ∧ R ∨ v8 = 0 ∧ ¬ R) → AGR [(xIOE, 1), (xISE, 2), (xIAE, 3)] (xc2 (f_Fo_addPoint_J52 gFo p3 p4 s0 (nI a) (nI (pn a)) (nI (6 * a + pn a))) (fun r_1 gFo_2 => some (.inl (r_1, gFo_2)))) (f_Mo_point_J89 o p3 p4 1 1 1 (nI a) (nI (pn a)) v8) o (fun x o' => INV gGo x gPk qPk gSk gAi gSh gJo o') := by
        intro s0 R hR hiff hris v8 hv8
        unfold f_Mo_point_J89 f_Mo_point_J121
        by_cases w : ¬ p3 < 0 ∧ p3 ≤ 10000
        · by_cases u : ¬ p4 < 1 ∧ p4 ≤ 1000
          · rw [wi_ok w.1 w.2, wi_ok u.1 u.2, xv1_s, if_neg n10, xv1_s, if_neg n10]
            rcases hv8 with ⟨rfl, hR'⟩ | ⟨rfl, hR'⟩
            · rw [if_neg n10]
              exact good s0 (hiff.mpr ⟨w.1, hR'⟩) w.1 w.2 u.1 u.2 (hris hR')
            · rw [if_pos rfl, bad s0 (fun q => hR' (hiff.mp q.1.1).2)]
              exact Or.inl ⟨xIAE, 3, 0, by simp, rfl, rfl⟩
          · rw [wi_ok w.1 w.2, wi_no u, bad s0 (fun q => u q.2)]
            exact Or.inl ⟨xIAE, 3, 0, by simp, rfl, rfl⟩
        · rw [wi_no w, bad s0 (fun q => w ⟨(hiff.mp q.1.1).1, q.1.2⟩)]
          exact Or.inl ⟨xIAE, 3, 0, by simp, rfl, rfl⟩
      unfold f_Mo_point_J41 f_Mo_point_J67 f_Mo_point_J72
      rw [if_neg (Int32.not_le.mpr hlt), if_neg (Int32.not_le.mpr hlt)]
      by_cases h0 : pn a = 0
      · rw [h0] at fin ⊢
        rw [if_pos (show nI 0 = 0 from rfl), if_pos (show nI 0 = 0 from rfl)]
        refine fin (-1) True (Or.inl trivial) ?_ (fun _ i hi => absurd hi (Nat.not_lt_zero i)) 1 (Or.inl ⟨rfl, trivial⟩)
        rw [show (-1 : Int32) + 1 = 0 from rfl]
        simp
      · have hz : ¬ nI (pn a) = 0 := nI_ne0 (by omega) (by omega)
        have hpred : nI (6 * a + pn a) - 1 = nI (6 * a + pn a - 1) := by
          rw [show 6 * a + pn a = (6 * a + pn a - 1) + 1 by omega, nIs1]
          rfl
        have hin3 : inb (nI (6 * a + pn a - 1)) 192 = true := inb_of (by omega) (by decide)
        obtain ⟨t1, t2, t3, t4, -⟩ := f4 (6 * a + pn a - 1) (by omega)
        rw [if_neg hz, if_neg hz, nI6, nI_add, hpred, gb_t hin3, gb_t hin3, cl_nI (show 6 * a + pn a - 1 < 2 ^ 31 by omega), t3, t4]
        simp only [letb]
        have hiff := rise0_iff (x := p3) (k := st (6 * a + pn a - 1)) (by omega)
        have hris : ¬ p3 ≤ nI (st (6 * a + pn a - 1)) → ∀ i, i < pn a → nI (st (6 * a + i)) < p3 := by
          intro hq i hi
          refine Int32.not_le.mp (fun q => hq ?_)
          have h2 : st (6 * a + i) ≤ st (6 * a + pn a - 1) := by
            by_cases hil : i = pn a - 1
            · subst hil
              rw [show 6 * a + (pn a - 1) = 6 * a + pn a - 1 by omega]
              exact Nat.le_refl _
            · have := f5 a i (pn a - 1) ha32 (by omega) (by omega)
              rw [show 6 * a + (pn a - 1) = 6 * a + pn a - 1 by omega] at this
              omega
          exact Int32.le_trans q (nI_le h2 (by omega))
        by_cases hq : p3 ≤ nI (st (6 * a + pn a - 1))
        · rw [if_pos hq]
          exact fin _ (¬ p3 ≤ nI (st (6 * a + pn a - 1))) (Or.inr (fun q => q hq)) hiff hris 0 (Or.inr ⟨rfl, fun q => q hq⟩)
        · rw [if_neg hq]
          exact fin _ (¬ p3 ≤ nI (st (6 * a + pn a - 1))) (Or.inl hq) hiff hris 1 (Or.inl ⟨rfl, hq⟩)
  · rw [place_no (rn := rn) (fun k hk => (f1 k hk).2.1) hno, hrow, xv1_s, if_pos rfl]
    unfold f_Mo_point_J23 f_Mo_point_J41 f_Mo_point_J67 f_Mo_point_J72
    rw [if_pos rfl, if_pos rfl, if_neg (by decide)]
    obtain ⟨b, hb⟩ := pt_1 o p3 p4 1 0 0 0 1
    rw [hb]
    exact Or.inl ⟨xIOE, 1, b, by simp, rfl, rfl⟩
