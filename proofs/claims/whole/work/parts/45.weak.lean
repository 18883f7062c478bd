def wbit (s : Nat) : Int32 := 1 <<< (nI s &&& 31)
theorem wk_1 : ∀ b : Fin 64, ∀ s : Fin 6, (decide (nI b.val &&& wbit s.val = 0)) = !b.val.testBit s.val := by decide +kernel
theorem wk_2 : ∀ b : Fin 64, ∀ s : Fin 6, nI b.val ||| wbit s.val = nI (b.val ||| 2 ^ s.val) := by decide +kernel
theorem wk_3 : ∀ b : Fin 64, ∀ s : Fin 6, nI b.val &&& (wbit s.val ^^^ (-1)) = nI (b.val &&& (63 - 2 ^ s.val)) := by decide +kernel
theorem wk_4 : ∀ b : Fin 64, ∀ s : Fin 6, (b.val ||| 2 ^ s.val < 64) ∧ (b.val &&& (63 - 2 ^ s.val) < 64) := by decide +kernel
theorem wk_5 : ∀ b : Fin 64, ∀ s t : Fin 6, (b.val ||| 2 ^ s.val).testBit t.val = (decide (t = s) || b.val.testBit t.val) := by decide +kernel
theorem wk_6 : ∀ b : Fin 64, ∀ s t : Fin 6, (b.val &&& (63 - 2 ^ s.val)).testBit t.val = (!decide (t = s) && b.val.testBit t.val) := by decide +kernel
theorem nI6 (n : Nat) : (6 : Int32) * nI n = nI (6 * n) := pk_mul 6 n
theorem mo_isobj {o : St} {p : Int32} : f_Mo_isObject o p = if ¬ p < 0 ∧ p < o 0 1 then some 1 else some 0 := by
  unfold f_Mo_isObject
  by_cases h0 : p < 0
  · rw [if_pos h0, if_neg (fun q => q.1 h0)]
  · rw [if_neg h0]
    by_cases h1 : p < o 0 1
    · rw [if_neg (Int32.not_le.mpr h1), if_pos ⟨h0, h1⟩]
    · rw [if_pos (Int32.not_lt.mp h1), if_neg (fun q => h1 q.2)]
theorem nar_b {p : Int32} (h : p = 0 ∨ p = 1) : vp_nar .boolean p = p := by
  rcases h with rfl | rfl <;> rfl
theorem op_weak {gGo gFo gPk : St} {qPk : Int64} {gSk gAi gSh gJo o : St} (h : INV gGo gFo gPk qPk gSk gAi gSh gJo o) (p1 p2 p3 : Int32) (hp3 : p3 = 0 ∨ p3 = 1) : AGR [(xIOE, 1)] (f_Cc_weak gGo gFo gPk qPk gSk gAi gSh gJo p1 p2 p3) (f_Mo_weak o p1 p2 p3) o (fun x o' => INV x gFo gPk qPk gSk gAi gSh gJo o') := by
  obtain ⟨⟨n, h1, h2, h3, h4, h5, h6⟩, hF, hP, hS, hA, hH, hJ⟩ := h
  unfold f_Cc_weak f_Go_setWeak f_Mo_weak f_Mo_weak_J22
  rw [mo_isobj, h2, h3]
  by_cases hv : ¬ p1 < 0 ∧ p1 < nI n
  · rw [rIndex_ok hv.1 hv.2, if_pos hv]
    obtain ⟨j, hj, rfl⟩ := ix_of (by omega) hv.1 hv.2
    by_cases hw : ¬ p2 < 0 ∧ p2 < 6
    · have hw2 : p2 ≤ 5 := by rw [i_le]; have := i_lt.mp hw.2; have e3 : (6 : Int32).toInt = 6 := rfl; have e2 : (5 : Int32).toInt = 5 := rfl; omega
      rw [rIndex_ok hw.1 hw.2, wi_ok hw.1 hw2]
      obtain ⟨sd, hsd, rfl⟩ := ix_of (n := 6) (by decide) hw.1 hw.2
      obtain ⟨b, hb1, hb2, hb3⟩ := h6 j (by omega)
      have hin : inb (nI j) 6 = true := inb_of (by omega) (by decide)
      have hcl : (nI j).toNatClampNeg = j := cl_nI (by omega)
      have t1 := wk_1 ⟨b, hb1⟩ ⟨sd, hsd⟩
      have hwas : (if nI b &&& wbit sd = 0 then (0 : Int32) else 1) = o 3 (6 * j + sd) := by
        rw [hb3 sd hsd]
        by_cases q : nI b &&& wbit sd = 0
        · rw [if_pos q]
          rw [decide_eq_true q] at t1
          cases hq : b.testBit sd
          · rfl
          · rw [show (⟨b, hb1⟩ : Fin 64).val.testBit (⟨sd, hsd⟩ : Fin 6).val = b.testBit sd from rfl, hq] at t1; cases t1
        · rw [if_neg q]
          rw [decide_eq_false q] at t1
          cases hq : b.testBit sd
          · rw [show (⟨b, hb1⟩ : Fin 64).val.testBit (⟨sd, hsd⟩ : Fin 6).val = b.testBit sd from rfl, hq] at t1; cases t1
          · rfl
      have hc : ∀ was : Int32, f_Go_setWeak_J36 gGo (nI j) p3 was (wbit sd) = some (.inl (if was = p3 then 0 else 1, up2 gGo 3 j (nI (if p3 = 0 then b &&& (63 - 2 ^ sd) else b ||| 2 ^ sd)))) := by
        intro was
        unfold f_Go_setWeak_J36 f_Go_setWeak_J70
        rcases hp3 with rfl | rfl
        · rw [if_pos rfl, gb_t hin]
          simp only [letb, gb_t hin, hcl, hb2]
          rw [show nI b &&& (wbit sd ^^^ (-1)) = nI (b &&& (63 - 2 ^ sd)) from wk_3 ⟨b, hb1⟩ ⟨sd, hsd⟩]
          by_cases q : was = 0
          · rw [if_pos q, if_pos q]; try rfl
          · rw [if_neg q, if_neg q]; try rfl
        · rw [if_neg (by decide), gb_t hin]
          simp only [letb, gb_t hin, hcl, hb2]
          rw [show nI b ||| wbit sd = nI (b ||| 2 ^ sd) from wk_2 ⟨b, hb1⟩ ⟨sd, hsd⟩]
          by_cases q : was = 1
          · rw [if_pos q, if_pos q]; try rfl
          · rw [if_neg q, if_neg q]; try rfl
      have hcc : (letb (1 <<< (nI sd &&& 31)) (fun x_3 => gb (inb (nI j) 6) (letb (gGo 3 (nI j).toNatClampNeg) (fun x_5 => if x_5 &&& x_3 = 0 then (f_Go_setWeak_J36 gGo (nI j) p3 0 x_3) else (f_Go_setWeak_J36 gGo (nI j) p3 1 x_3))))) = some (.inl (if o 3 (6 * j + sd) = p3 then 0 else 1, up2 gGo 3 j (nI (if p3 = 0 then b &&& (63 - 2 ^ sd) else b ||| 2 ^ sd)))) := by
        rw [← hwas]
        refine (gb_t hin).trans ?_
        show (if gGo 3 (nI j).toNatClampNeg &&& wbit sd = 0 then (f_Go_setWeak_J36 gGo (nI j) p3 0 (wbit sd)) else (f_Go_setWeak_J36 gGo (nI j) p3 1 (wbit sd))) = _
        rw [hcl, hb2, hc 0, hc 1]
        by_cases q : nI b &&& wbit sd = 0
        · rw [if_pos q, if_pos q]
        · rw [if_neg q, if_neg q]
      rw [xc0_l, xc0_l, hcc]
      have i1 : inb (6 * nI j + nI sd) 36 = true := by rw [nI6, nI_add]; exact inb_of (by omega) (by decide)
      have hm : f_Mo_weak_J23 o (nI j) (nI sd) p3 1 = some (if o 3 (6 * j + sd) = p3 then 0 else 1, up2 (up2 o 0 0 0) 3 (6 * j + sd) p3) := by
        unfold f_Mo_weak_J23
        rw [goes_ok, xv2_s, if_neg (by decide)]
        have e : (6 * nI j + nI sd).toNatClampNeg = 6 * j + sd := by rw [nI6, nI_add]; exact cl_nI (by omega)
        simp only [letb, gb_t i1, e, nar_b hp3]
        show (if o 3 (6 * j + sd) = p3 then _ else _) = _
        by_cases q : o 3 (6 * j + sd) = p3
        · rw [if_pos q, if_pos q]
        · rw [if_neg q, if_neg q]
      refine Or.inr ⟨_, up2 gGo 3 j (nI (if p3 = 0 then b &&& (63 - 2 ^ sd) else b ||| 2 ^ sd)), up2 (up2 o 0 0 0) 3 (6 * j + sd) p3, ?_, hm, rfl, ⟨n, h1, h2, h3, h4, h5, ?_⟩, hF, hP, hS, hA, hH, hJ⟩
      · rw [xc2_l]
        refine gb_t ?_
        by_cases q : o 3 (6 * j + sd) = p3
        · rw [if_pos q]; rfl
        · rw [if_neg q]; rfl
      · intro i hi
        by_cases hij : i = j
        · subst hij
          refine ⟨if p3 = 0 then b &&& (63 - 2 ^ sd) else b ||| 2 ^ sd, ?_, by simp [up2_at], ?_⟩
          · have := wk_4 ⟨b, hb1⟩ ⟨sd, hsd⟩
            split
            · exact this.2
            · exact this.1
          · intro t ht
            rw [up2_at]
            have t5 := wk_5 ⟨b, hb1⟩ ⟨sd, hsd⟩ ⟨t, ht⟩
            have t6 := wk_6 ⟨b, hb1⟩ ⟨sd, hsd⟩ ⟨t, ht⟩
            simp only [Fin.mk.injEq] at t5 t6
            by_cases hts : t = sd
            · subst hts
              rw [if_pos ⟨rfl, rfl⟩]
              rcases hp3 with rfl | rfl
              · rw [if_pos (rfl : (0 : Int32) = 0), t6]; simp
              · rw [if_neg (by decide : ¬ (1 : Int32) = 0), t5]; simp
            · rw [if_neg (by omega)]
              refine (hb3 t ht).trans ?_
              rcases hp3 with rfl | rfl
              · rw [if_pos (rfl : (0 : Int32) = 0), t6]; simp [hts]
              · rw [if_neg (by decide : ¬ (1 : Int32) = 0), t5]; simp [hts]
        · obtain ⟨b', q1, q2, q3⟩ := h6 i hi
          refine ⟨b', q1, by simp [up2_at, hij]; exact q2, fun t ht => ?_⟩
          rw [up2_at, if_neg (by omega)]
          exact q3 t ht
    · have hw2 : ¬ (¬ p2 < 0 ∧ p2 ≤ 5) := fun q => hw ⟨q.1, by rw [i_lt]; have := i_le.mp q.2; have e3 : (6 : Int32).toInt = 6 := rfl; have e2 : (5 : Int32).toInt = 5 := rfl; omega⟩
      rw [rIndex_no hw, wi_no hw2]
      exact Or.inl ⟨xIOE, 1, 0, by simp, rfl, rfl⟩
  · rw [rIndex_no hv, if_neg hv]
    exact Or.inl ⟨xIOE, 1, 0, by simp, rfl, rfl⟩
