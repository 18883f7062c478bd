theorem wk_7 : ∀ b : Fin 64, ∀ s : Fin 6, (decide ((nI b.val >>> (nI s.val &&& 31)) &&& 1 = 0)) = !b.val.testBit s.val := by decide +kernel
theorem wk_8 : ∀ b : Fin 64, ∀ s : Fin 6, (decide ((nI b.val >>> (nI s.val &&& 31)) &&& 1 = 1)) = b.val.testBit s.val := by decide +kernel
theorem bit0 {b s : Nat} (hb : b < 64) (hs : s < 6) : (nI b >>> (nI s &&& 31)) &&& 1 = 0 ↔ b.testBit s = false := by
  have h := wk_7 ⟨b, hb⟩ ⟨s, hs⟩
  simp only at h
  constructor
  · intro q
    rw [decide_eq_true q] at h
    cases hc : b.testBit s
    · rfl
    · rw [hc] at h; cases h
  · intro q
    rw [q] at h
    exact of_decide_eq_true h
theorem bit1 {b s : Nat} (hb : b < 64) (hs : s < 6) : (nI b >>> (nI s &&& 31)) &&& 1 = 1 ↔ b.testBit s = true := by
  have h := wk_8 ⟨b, hb⟩ ⟨s, hs⟩
  simp only at h
  constructor
  · intro q
    rw [decide_eq_true q] at h
    exact h.symm
  · intro q
    rw [q] at h
    exact of_decide_eq_true h
theorem pk_isIn {S j : Nat} (hS : S < 64) (hj : j < 6) : f_Pk_isIn (nI S) (nI j) = some (if S.testBit j then 1 else 0) := by
  unfold f_Pk_isIn
  cases hc : S.testBit j
  · rw [if_pos ((bit0 hS hj).mpr hc)]; rfl
  · rw [if_neg (fun q => by rw [(bit0 hS hj).mp q] at hc; cases hc)]; rfl
theorem mo_isIn {S j : Nat} (hS : S < 64) (hj : j < 6) : f_Mo_isIn (nI S) (nI j) = some (if S.testBit j then 1 else 0) := by
  unfold f_Mo_isIn
  cases hc : S.testBit j
  · rw [if_neg (fun q => by rw [(bit1 hS hj).mp q] at hc; cases hc)]; rfl
  · rw [if_pos ((bit1 hS hj).mpr hc)]; rfl
/-- the goods as numbers -/
def Gds (g : St) (S : Nat) (sz wk : Nat → Nat) : Prop := ∀ z, z < 6 → S.testBit z = true → (∀ k, k < 3 → g 1 (3 * z + k) = nI (sz (3 * z + k)) ∧ 1 ≤ sz (3 * z + k) ∧ sz (3 * z + k) ≤ 200) ∧ g 3 z = nI (wk z) ∧ wk z < 64
def Jsh (sz wk : Nat → Nat) (w h z i : Nat) (best sh : Int32) : Prop := (best = -1 ∧ sh = 201 ∧ ∀ v, v < i → ¬ Fit sz wk w h z v) ∨ (∃ v, v < i ∧ best = nI v ∧ sh = nI (sz (3 * z + axi v 0)) ∧ Fit sz wk w h z v ∧ ∀ v', v' < i → Fit sz wk w h z v' → sz (3 * z + axi v 0) < sz (3 * z + axi v' 0) ∨ (sz (3 * z + axi v 0) = sz (3 * z + axi v' 0) ∧ v ≤ v'))
theorem sh_l {g : St} {S : Nat} {sz wk : Nat → Nat} (hG : Gds g S sz wk) {z w h : Nat} (hz : z < 6) (hm : S.testBit z = true) (hw : w < 2 ^ 30) (hh : h < 2 ^ 30) : ∀ (m i : Nat), i ≤ 6 → 6 < i + m → ∀ (best sh : Int32), Jsh sz wk w h z i best sh → ∃ r sh', Jsh sz wk w h z 6 r sh' ∧ it3 (f_Go_shortestWay_L11 g (nI z) (nI w) (nI h)) m best sh (nI i) = some r := by
  obtain ⟨g1, g2, g3⟩ := hG z hz hm
  intro m
  induction m with
  | zero => intro i h1 h2; omega
  | succ m ih =>
    intro i h1 h2 best sh hJ
    rw [it3_s, f_Go_shortestWay_L11]
    by_cases hi : i = 6
    · subst hi
      rw [if_pos (show (6 : Int32) ≤ nI 6 from by decide)]
      exact ⟨best, sh, hJ, rfl⟩
    · have hi6 : i < 6 := by omega
      rw [if_neg (show ¬ (6 : Int32) ≤ nI i from nI_ge (b := 6) hi6 (by decide))]
      have s0 : f_Go_sizeOf g (nI z) (nI i) 0 = some (g 1 (3 * z + axi i 0)) := sizeOf_ok (a := 0) hz hi6 (by decide)
      have s1 : f_Go_sizeOf g (nI z) (nI i) 1 = some (g 1 (3 * z + axi i 1)) := sizeOf_ok (a := 1) hz hi6 (by decide)
      have s2 : f_Go_sizeOf g (nI z) (nI i) 2 = some (g 1 (3 * z + axi i 2)) := sizeOf_ok (a := 2) hz hi6 (by decide)
      have a0 := axi_lt ⟨i, hi6⟩ ⟨0, by decide⟩
      have a1 := axi_lt ⟨i, hi6⟩ ⟨1, by decide⟩
      have a2 := axi_lt ⟨i, hi6⟩ ⟨2, by decide⟩
      simp only at a0 a1 a2
      obtain ⟨b0, b0', b0''⟩ := g1 _ a0
      obtain ⟨b1, b1', b1''⟩ := g1 _ a1
      obtain ⟨b2, b2', b2''⟩ := g1 _ a2
      rw [s0, s1, s2, b0, b1, b2, xv1_s, xv1_s]
      unfold f_Go_shortestWay_J56 f_Go_shortestWay_J57 f_Go_shortestWay_J89
      simp only [letb, nIp1]
      have skip : ¬ (Fit sz wk w h z i ∧ sz (3 * z + axi i 0) < 201 ∧ nI (sz (3 * z + axi i 0)) < sh) → Jsh sz wk w h z (i + 1) best sh := by
        intro hno
        rcases hJ with ⟨k1, k2, k3⟩ | ⟨v, k1, k2, k3, k4, k5⟩
        · refine Or.inl ⟨k1, k2, fun v hv hf => ?_⟩
          by_cases hvi : v = i
          · subst hvi
            exact hno ⟨hf, by omega, by rw [k2]; exact nI_lt (b := 201) (by omega) (by decide)⟩
          · exact k3 v (by omega) hf
        · refine Or.inr ⟨v, by omega, k2, k3, k4, fun v' hv' hf => ?_⟩
          by_cases hvi : v' = i
          · subst hvi
            by_cases hc : sz (3 * z + axi v' 0) < sz (3 * z + axi v 0)
            · exact absurd ⟨hf, by omega, by rw [k3]; exact nI_lt hc (by
                have := (g1 _ (axi_lt ⟨v, k4.1⟩ ⟨0, by decide⟩)).2.2
                simp only at this
                omega)⟩ hno
            · omega
          · exact k5 v' (by omega) hf
      by_cases c1 : nI w < nI (sz (3 * z + axi i 1))
      · rw [if_pos c1, if_pos trivial]
        refine ih (i + 1) (by omega) (by omega) best sh (skip (fun q => ?_))
        rw [nI_ltI (by omega) (by omega)] at c1
        have := q.1.2.2.1
        omega
      · rw [if_neg c1, xv1_s]
        by_cases c2 : nI h < nI (sz (3 * z + axi i 2))
        · rw [if_pos c2, if_pos trivial]
          refine ih (i + 1) (by omega) (by omega) best sh (skip (fun q => ?_))
          rw [nI_ltI (by omega) (by omega)] at c2
          have := q.1.2.2.2
          omega
        · rw [if_neg c2, if_neg n10]
          by_cases c3 : sh ≤ nI (sz (3 * z + axi i 0))
          · rw [if_pos c3]
            exact ih (i + 1) (by omega) (by omega) best sh (skip (fun q => absurd q.2.2 (Int32.not_lt.mpr c3)))
          · rw [if_neg c3]
            have hmay : f_Go_mayStand g (nI z) (nI i) = some (if (wk z).testBit i then 0 else 1) := by
              unfold f_Go_mayStand
              rw [gb_t (inb_of hz (by decide)), cl_nI (show z < 2 ^ 31 by omega), g2]
              simp only [letb]
              cases hc : (wk z).testBit i
              · rw [if_pos ((bit0 g3 hi6).mpr hc)]; rfl
              · rw [if_neg (fun q => by rw [(bit0 g3 hi6).mp q] at hc; cases hc)]; rfl
            rw [hmay, xv1_s]
            cases hc : (wk z).testBit i
            · rw [if_neg (show ¬ (if false = true then (0 : Int32) else 1) = 0 by decide)]
              rw [nI_ltI (by omega) (by omega)] at c1 c2
              have hfit : Fit sz wk w h z i := ⟨hi6, hc, by omega, by omega⟩
              refine ih (i + 1) (by omega) (by omega) _ _ (Or.inr ⟨i, by omega, rfl, rfl, hfit, fun v' hv' hf => ?_⟩)
              by_cases hvi : v' = i
              · subst hvi; exact Or.inr ⟨rfl, Nat.le_refl _⟩
              · rcases hJ with ⟨k1, k2, k3⟩ | ⟨v, k1, k2, k3, k4, k5⟩
                · exact absurd hf (k3 v' (by omega))
                · have hlt := Int32.not_le.mp c3
                  rw [k3, nI_ltI (by omega) (by
                    have := (g1 _ (axi_lt ⟨v, k4.1⟩ ⟨0, by decide⟩)).2.2
                    simp only at this
                    omega)] at hlt
                  have := k5 v' (by omega) hf
                  omega
            · rw [if_pos (show (if true = true then (0 : Int32) else 1) = 0 by decide)]
              exact ih (i + 1) (by omega) (by omega) best sh (skip (fun q => by have := q.1.2.1; rw [hc] at this; cases this))
theorem short_ok {g : St} {S : Nat} {sz wk : Nat → Nat} (hG : Gds g S sz wk) {z w h : Nat} (hz : z < 6) (hm : S.testBit z = true) (hw : w < 2 ^ 30) (hh : h < 2 ^ 30) : (∃ v, Short sz wk w h z v ∧ f_Go_shortestWay g (nI z) (nI w) (nI h) = some (nI v)) ∨ ((∀ v, ¬ Fit sz wk w h z v) ∧ f_Go_shortestWay g (nI z) (nI w) (nI h) = some (-1)) := by
  obtain ⟨r, sh', hJ, he⟩ := sh_l hG hz hm hw hh FU 0 (Nat.zero_le _) (by unfold FU; omega) (-1) 201 (Or.inl ⟨rfl, rfl, fun v hv => absurd hv (Nat.not_lt_zero v)⟩)
  have he' : f_Go_shortestWay g (nI z) (nI w) (nI h) = some r := he
  rcases hJ with ⟨k1, k2, k3⟩ | ⟨v, k1, k2, k3, k4, k5⟩
  · exact Or.inr ⟨fun v hf => k3 v hf.1 hf, by rw [he', k1]⟩
  · exact Or.inl ⟨v, ⟨k4, fun v' hf => k5 v' hf.1 hf⟩, by rw [he', k2]⟩
theorem short_ex {sz wk : Nat → Nat} {w h z : Nat} (hex : ∃ v, Fit sz wk w h z v) : ∃ v, Short sz wk w h z v := by
  obtain ⟨k, ⟨v, hf, hk⟩, hmin⟩ := pk_least (fun k => ∃ v, Fit sz wk w h z v ∧ sz (3 * z + axi v 0) * 6 + v = k) (by obtain ⟨v, hf⟩ := hex; exact ⟨_, v, hf, rfl⟩)
  refine ⟨v, hf, fun v' hf' => ?_⟩
  have h1 : ¬ sz (3 * z + axi v' 0) * 6 + v' < k := fun q => hmin _ q ⟨v', hf', rfl⟩
  have := hf.1
  have := hf'.1
  omega
