theorem nI8 (n : Nat) : (8 : Int32) * nI n = nI (8 * n) := pk_mul 8 n
theorem nI8' (n : Nat) : nI n * (8 : Int32) = nI (8 * n) := by rw [Nat.mul_comm]; exact pk_mul n 8
theorem nI6' (n : Nat) : nI n * (6 : Int32) = nI (6 * n) := by rw [Nat.mul_comm]; exact pk_mul n 6
theorem nI_ltI' {x : Int32} {k : Nat} (hk : k < 2 ^ 30) (h : ¬ x < nI k + 1) : ¬ x < nI (k + 1) := by rw [← nIp1]; exact h
/-- rising: above the last thickness, at most hi -/
theorem rise_iff {x : Int32} {k hi : Nat} (hk : k < 2 ^ 30) : (¬ x < nI k + 1) ↔ (¬ x < 1 ∧ ¬ x ≤ nI k) := by
  rw [nIp1, i_lt, i_lt, i_le, nI_toInt (by omega), nI_toInt (by omega), show (1 : Int32).toInt = 1 from rfl]
  omega
theorem foam_1 (o : St) (p1 p2 : Int32) : ∃ b, f_Mo_foam_J21 o p1 p2 0 0 = some (b, up2 o 0 0 1) := by
  unfold f_Mo_foam_J21 f_Mo_foam_J37 f_Mo_foam_J75 f_Mo_foam_J71
  rw [if_neg (by decide)]
  rcases wi_cases p2 1 500 with e | e <;> rw [e] <;> exact ⟨0, rfl⟩
theorem foam_2 (o : St) (p1 p2 v3 v4 : Int32) (hz : ¬ v4 = 0) (hin : inb (((8 * p1) + v4) - 1) 32 = true) : ∃ b, f_Mo_foam_J37 o p1 p2 1 0 v3 v4 = some (b, up2 o 0 0 2) := by
  unfold f_Mo_foam_J37 f_Mo_foam_J75 f_Mo_foam_J71
  rcases wi_cases p2 1 500 with e | e <;> rw [e]
  · exact ⟨0, rfl⟩
  · rw [xv1_s, if_neg n10, if_neg hz, gb_t hin]
    simp only [letb]
    split <;> exact ⟨0, rfl⟩
theorem op_foam {gGo gFo gPk : St} {qPk : Int64} {gSk gAi gSh gJo o : St} (h : INV gGo gFo gPk qPk gSk gAi gSh gJo o) (p1 p2 : Int32) : AGR [(xIOE, 1), (xISE, 2), (xIAE, 3)] (f_Cc_foam gGo gFo gPk qPk gSk gAi gSh gJo p1 p2) (f_Mo_foam o p1 p2) o (fun x o' => INV gGo x gPk qPk gSk gAi gSh gJo o') := by
  obtain ⟨hG, ⟨rn, pn, th, st, vl, f1, f2, f3, f4, f5, f6⟩, hP, hS, hA, hH, hJ⟩ := h
  unfold f_Cc_foam f_Fo_addRow f_Mo_foam
  by_cases hv : ¬ p1 < 0 ∧ p1 < 4
  · have hv2 : p1 ≤ 3 := by rw [i_le]; have := i_lt.mp hv.2; have e3 : (4 : Int32).toInt = 4 := rfl; have e2 : (3 : Int32).toInt = 3 := rfl; omega
    obtain ⟨k, hk, rfl⟩ := ix_of (n := 4) (by decide) hv.1 hv.2
    obtain ⟨r1, r2, r3⟩ := f1 k hk
    have hin : inb (nI k) 4 = true := inb_of hk (by decide)
    have hcl : (nI k).toNatClampNeg = k := cl_nI (by omega)
    rw [rIndex_ok hv.1 hv.2, wi_ok hv.1 hv2, xc0_l, xv1_s, if_neg n10, gb_t hin, gb_t hin, hcl]
    simp only [letb]
    rw [r2, r3, nI8', nI_add]
    by_cases h8 : rn k = 8
    · rw [h8, rRoom_no (by decide)]
      unfold f_Mo_foam_J21
      rw [if_pos (show (8 : Int32) ≤ nI 8 by decide)]
      obtain ⟨b, hb⟩ := foam_2 o (nI k) p2 1 (nI 8) (by decide) (by rw [nI8, nI_add, show 8 * k + 8 = (8 * k + 7) + 1 by omega, nIs1]; exact inb_of (by omega) (by decide))
      rw [hb]
      exact Or.inl ⟨xISE, 2, b, by simp, rfl, rfl⟩
    · have hlt : nI (rn k) < 8 := nI_lt (b := 8) (by omega) (by decide)
      rw [rRoom_ok hlt, xc0_l]
      unfold f_Mo_foam_J21
      rw [if_neg (Int32.not_le.mpr hlt)]
      have hin2 : inb (nI (8 * k + rn k)) 32 = true := inb_of (by omega) (by decide)
      have hcl2 : (nI (8 * k + rn k)).toNatClampNeg = 8 * k + rn k := cl_nI (by omega)
      -- the two ends
      have good : ∀ s0 : Int32, ¬ p2 < s0 + 1 → ¬ p2 < 1 → p2 ≤ 500 → AGR [(xIOE, 1), (xISE, 2), (xIAE, 3)] (xc2 (f_Fo_addRow_J43 gFo (nI k) p2 s0 (nI (rn k)) (nI (8 * k + rn k))) (fun r_1 gFo_2 => some (.inl (r_1, gFo_2)))) (f_Mo_foam_J71 o (nI k) p2 1 1 1 (nI (rn k))) o (fun x o' => INV gGo x gPk qPk gSk gAi gSh gJo o') := by
        intro s0 w1 w0 w2
        have hc : f_Fo_addRow_J43 gFo (nI k) p2 s0 (nI (rn k)) (nI (8 * k + rn k)) = some (.inl (nI (rn k), up2 (up2 gFo 2 (8 * k + rn k) p2) 1 k (nI (rn k + 1)))) := by
          unfold f_Fo_addRow_J43
          rw [rRange_ok w1 w2, xc0_l, gb_t hin2]
          simp only [letb, gb_t hin, hcl, hcl2, nIp1]
        have hm : f_Mo_foam_J71 o (nI k) p2 1 1 1 (nI (rn k)) = some (nI (rn k), up2 (up2 (up2 o 0 0 0) 5 (8 * k + rn k) p2) 4 k (nI (rn k + 1))) := by
          unfold f_Mo_foam_J71 f_Mo_foam_J76
          rw [goes_ok, xv2_s, if_neg n10]
          simp only [letb, nI8, nI_add, gb_t hin, gb_t hin2, hcl, hcl2]
          rw [show up2 (up2 o 0 0 0) 5 (8 * k + rn k) p2 4 k = nI (rn k) from r3, nIp1]
        rw [hc, hm]
        obtain ⟨t, t1, t2, rfl⟩ := i_range (a := 1) (b := 500) (by decide) w0 w2 (by decide)
        refine Or.inr ⟨nI (rn k), up2 (up2 gFo 2 (8 * k + rn k) (nI t)) 1 k (nI (rn k + 1)), up2 (up2 (up2 o 0 0 0) 5 (8 * k + rn k) (nI t)) 4 k (nI (rn k + 1)), rfl, rfl, rfl, hG, ⟨fun i => if i = k then rn k + 1 else rn i, pn, fun a => if a = 8 * k + rn k then t else th a, st, vl, ?_, f2, ?_, f4, f5, f6⟩, hP, hS, hA, hH, hJ⟩
        · intro i hi
          by_cases hik : i = k
          · subst hik
            simp [up2_at]
            omega
          · simp [up2_at, hik]
            exact f1 i hi
        · intro a ha
          by_cases hak : a = 8 * k + rn k
          · subst hak
            simp [up2_at]
            omega
          · simp [up2_at, hak]
            exact f3 a ha
      have bad : ∀ s0 : Int32, ¬ (¬ p2 < s0 + 1 ∧ p2 ≤ 500) → AGR [(xIOE, 1), (xISE, 2), (xIAE, 3)] (xc2 (f_Fo_addRow_J43 gFo (nI k) p2 s0 (nI (rn k)) (nI (8 * k + rn k))) (fun r_1 gFo_2 => some (.inl (r_1, gFo_2)))) (f_Mo_foam_J75 o (nI k) p2 1 1 1 (nI (rn k))) o (fun x o' => INV gGo x gPk qPk gSk gAi gSh gJo o') := by
        intro s0 w
        have hc : f_Fo_addRow_J43 gFo (nI k) p2 s0 (nI (rn k)) (nI (8 * k + rn k)) = some (.inr xIAE) := by
          unfold f_Fo_addRow_J43
          rw [rRange_no w]
          rfl
        rw [hc]
        exact Or.inl ⟨xIAE, 3, 0, by simp, rfl, rfl⟩
      unfold f_Mo_foam_J37
      by_cases h0 : rn k = 0
      · rw [h0] at good bad ⊢
        rw [if_pos (show nI 0 = 0 from rfl)]
        by_cases hw : ¬ p2 < 1 ∧ p2 ≤ 500
        · rw [wi_ok hw.1 hw.2, xv1_s, if_neg n10, if_pos (show nI 0 = 0 from rfl)]
          exact good 0 hw.1 hw.1 hw.2
        · rw [wi_no hw, xv1_s, if_pos rfl]
          exact bad 0 hw
      · have hz : ¬ nI (rn k) = 0 := nI_ne0 (by omega) (by omega)
        have hpred : nI (8 * k + rn k) - 1 = nI (8 * k + rn k - 1) := by
          rw [show 8 * k + rn k = (8 * k + rn k - 1) + 1 by omega, nIs1]
          rfl
        have hin3 : inb (nI (8 * k + rn k - 1)) 32 = true := inb_of (by omega) (by decide)
        obtain ⟨t1, t2, t3⟩ := f3 (8 * k + rn k - 1) (by omega)
        rw [if_neg hz, hpred, gb_t hin3, cl_nI (show 8 * k + rn k - 1 < 2 ^ 31 by omega), t2]
        have hr := rise_iff (x := p2) (k := th (8 * k + rn k - 1)) (hi := 0) (by omega)
        by_cases hw : ¬ p2 < 1 ∧ p2 ≤ 500
        · rw [wi_ok hw.1 hw.2, xv1_s, if_neg n10, if_neg hz, nI8, nI_add, hpred, gb_t hin3, cl_nI (show 8 * k + rn k - 1 < 2 ^ 31 by omega), t3]
          simp only [letb]
          by_cases hq : p2 ≤ nI (th (8 * k + rn k - 1))
          · rw [if_pos hq]
            exact bad _ (fun q => (hr.mp q.1).2 hq)
          · rw [if_neg hq]
            exact good _ (hr.mpr ⟨hw.1, hq⟩) hw.1 hw.2
        · rw [wi_no hw, xv1_s, if_pos rfl]
          exact bad _ (fun q => hw ⟨(hr.mp q.1).1, q.2⟩)
  · have hv2 : ¬ (¬ p1 < 0 ∧ p1 ≤ 3) := fun q => hv ⟨q.1, by rw [i_lt]; have := i_le.mp q.2; have e3 : (4 : Int32).toInt = 4 := rfl; have e2 : (3 : Int32).toInt = 3 := rfl; omega⟩
    rw [rIndex_no hv, wi_no hv2, xv1_s, if_pos rfl]
    obtain ⟨b, hb⟩ := foam_1 o p1 p2
    rw [hb]
    exact Or.inl ⟨xIOE, 1, b, by simp, rfl, rfl⟩
