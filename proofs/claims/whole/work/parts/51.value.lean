theorem nIsub {a b : Nat} (h : b ≤ a) : nI a - nI b = nI (a - b) := pk_sub h
/-- between two points: rounded up, on both sides the same -/
theorem betw {x vl vr sl sr s : Nat} (hx : x = vl) (h1 : vl ≤ 1000) (h2 : vr ≤ 1000) (h3 : sl < s) (h4 : s < sr) (h5 : sr ≤ 10000) :
    ∃ f u : Int32, f_Ma_floorDiv ((nI vl - nI vr) * (nI s - nI sl)) (nI (sr - sl)) = some f ∧ f_Mo_up ((nI vr - nI vl) * (nI s - nI sl)) (nI (sr - sl)) = some u ∧ nI vl - f = nI vl + u := by
  have eL : (nI (sr - sl)).toInt = ((sr - sl : Nat) : Int) := nI_toInt (by omega)
  have eD : (nI s - nI sl).toInt = ((s - sl : Nat) : Int) := by rw [nIsub (by omega)]; exact nI_toInt (by omega)
  have eA : (nI vl - nI vr).toInt = (vl : Int) - vr := pk_sub_toInt (by omega) (by omega)
  have eB : (nI vr - nI vl).toInt = (vr : Int) - vl := pk_sub_toInt (by omega) (by omega)
  have hd : ((s - sl : Nat) : Int) ≤ 10000 := by omega
  have hd0 : 0 ≤ ((s - sl : Nat) : Int) := by omega
  have b1 : ((vl : Int) - vr) * ((s - sl : Nat) : Int) ≤ 10000000 := by
    have q1 : ((vl : Int) - vr) * ((s - sl : Nat) : Int) ≤ 1000 * ((s - sl : Nat) : Int) := Int.mul_le_mul_of_nonneg_right (by omega) hd0
    omega
  have b2 : -10000000 ≤ ((vl : Int) - vr) * ((s - sl : Nat) : Int) := by
    have q1 : (-1000) * ((s - sl : Nat) : Int) ≤ ((vl : Int) - vr) * ((s - sl : Nat) : Int) := Int.mul_le_mul_of_nonneg_right (by omega) hd0
    omega
  have eAB : ((vr : Int) - vl) * ((s - sl : Nat) : Int) = -(((vl : Int) - vr) * ((s - sl : Nat) : Int)) := by
    rw [← Int.neg_mul]
    congr 1
    omega
  generalize hP : ((vl : Int) - vr) * ((s - sl : Nat) : Int) = P at b1 b2 eAB
  have m1 : ((nI vl - nI vr) * (nI s - nI sl)).toInt = P := by
    rw [t_mul (by rw [eA, eD, hP]; omega) (by rw [eA, eD, hP]; omega), eA, eD, hP]
  have m2 : ((nI vr - nI vl) * (nI s - nI sl)).toInt = -P := by
    rw [t_mul (by rw [eB, eD, eAB]; omega) (by rw [eB, eD, eAB]; omega), eB, eD, eAB]
  obtain ⟨f, hf1, hf2⟩ := floor_ok (a := (nI vl - nI vr) * (nI s - nI sl)) (l := nI (sr - sl)) (by omega) (by omega) (by omega) (by omega)
  obtain ⟨u, hu1, hu2⟩ := up_ok (a := (nI vr - nI vl) * (nI s - nI sl)) (l := nI (sr - sl)) (by omega) (by omega) (by omega) (by omega)
  rw [m1, eL] at hf2
  rw [m2, eL, Int.neg_neg] at hu2
  obtain ⟨c1, c2⟩ := ediv_bd (A := P) (L := ((sr - sl : Nat) : Int)) (by omega)
  have hb : -10000000 ≤ f.toInt ∧ f.toInt ≤ 10000000 := by
    rw [hf2]
    by_cases c : 0 ≤ P
    · have := c1 c; omega
    · have := c2 (by omega); omega
  refine ⟨f, u, hf1, hu1, i_eq.mpr ?_⟩
  have ev : (nI vl).toInt = (vl : Int) := nI_toInt (by omega)
  rw [t_sub (by omega) (by omega), t_add (by omega) (by omega), hu2, hf2]
  omega
/-- a row's table: n points at place a -/
def Row (f o : St) (a n : Nat) (st vl : Nat → Nat) : Prop := a < 32 ∧ n ≤ 6 ∧ f 3 a = nI n ∧ o 6 a = nI n ∧ (∀ i, i < n → st (6 * a + i) ≤ 10000 ∧ vl (6 * a + i) ≤ 1000 ∧ f 4 (6 * a + i) = nI (st (6 * a + i)) ∧ o 7 (6 * a + i) = nI (st (6 * a + i)) ∧ f 5 (6 * a + i) = nI (vl (6 * a + i)) ∧ o 8 (6 * a + i) = nI (vl (6 * a + i))) ∧ (∀ i j, i < j → j < n → st (6 * a + i) < st (6 * a + j))
theorem mo_above {f o : St} {a n : Nat} {st vl : Nat → Nat} (hR : Row f o a n st vl) {x : Int32} : ∀ (m i : Nat), i ≤ n → n < i + m → (∀ j, i ≤ j → j < n → x < nI (st (6 * a + j))) → it1 (f_Mo_valueOf_L5 o (nI a) x) m (nI (6 * a + i)) = some (-1) := by
  obtain ⟨h1, h2, h3, h4, h5, h6⟩ := hR
  intro m
  induction m with
  | zero => intro i hi1 hi2; omega
  | succ m ih =>
    intro i hi1 hi2 hx
    rw [it1_s, f_Mo_valueOf_L5, gb_t (inb_of h1 (by decide)), cl_nI (show a < 2 ^ 31 by omega), h4]
    simp only [letb]
    rw [nI6, nI_add]
    by_cases hi : i = n
    · subst hi
      rw [if_pos (nI_le (Nat.le_refl _) (by omega))]
      rfl
    · have hin : inb (nI (6 * a + i)) 192 = true := inb_of (by omega) (by decide)
      have hxi := hx i (Nat.le_refl i) (by omega)
      obtain ⟨-, -, -, q4, -, -⟩ := h5 i (by omega)
      rw [if_neg (nI_ge (by omega) (by omega)), gb_t hin, cl_nI (show 6 * a + i < 2 ^ 31 by omega), q4, if_neg (fun q => by rw [q] at hxi; exact Int32.lt_irrefl hxi)]
      unfold f_Mo_valueOf_J126
      rw [gb_t (inb_of h1 (by decide)), gb_t hin, if_pos (show x ≤ nI (st (6 * a + i)) from Int32.le_of_lt hxi), nIp1]
      simp only [letb]
      have := ih (i + 1) (by omega) (by omega) (fun j hj1 hj2 => hx j (by omega) hj2)
      rw [show 6 * a + i + 1 = 6 * a + (i + 1) by omega, this]
      split <;> rfl
theorem val_l {f o : St} {a n : Nat} {st vl : Nat → Nat} (hR : Row f o a n st vl) {x : Int32} : ∀ (m M i : Nat), i ≤ n → n < i + m → n < i + M → (∀ j, j < i → nI (st (6 * a + j)) < x) → (i = 0 ∨ i = n ∨ nI (st (6 * a + i)) ≤ x) →
    ∃ r : Int32, it4 (f_Fo_valueAt_L31 f x) M (nI a) (nI (6 * a)) (nI (6 * a + n)) (nI (6 * a + i)) = some (.inl r) ∧ it1 (f_Mo_valueOf_L5 o (nI a) x) m (nI (6 * a + i)) = some r := by
  have hR' := hR
  obtain ⟨h1, h2, h3, h4, h5, h6⟩ := hR
  intro m
  induction m with
  | zero => intro M i hi1 hi2; omega
  | succ m ih =>
    intro M i hi1 hi2 hM hlt hpos
    obtain ⟨M, rfl⟩ : ∃ M', M = M' + 1 := ⟨M - 1, by omega⟩
    by_cases hi : i = n
    · subst hi
      rw [it4_s, f_Fo_valueAt_L31, if_pos (nI_le (Nat.le_refl _) (by omega)), it1_s, f_Mo_valueOf_L5, gb_t (inb_of h1 (by decide)), cl_nI (show a < 2 ^ 31 by omega), h4]
      simp only [letb]
      rw [nI6, nI_add, if_pos (nI_le (Nat.le_refl _) (by omega))]
      exact ⟨-1, rfl, rfl⟩
    · have hin : inb (nI (6 * a + i)) 192 = true := inb_of (by omega) (by decide)
      obtain ⟨s1, v1, q3, q4, q5, q6⟩ := h5 i (by omega)
      by_cases hgt : x < nI (st (6 * a + i))
      · -- ahead of the first point
        have hi0 : i = 0 := by
          rcases hpos with h | h | h
          · exact h
          · exact absurd h hi
          · exact absurd hgt (Int32.not_lt.mpr h)
        subst hi0
        refine ⟨-1, ?_, ?_⟩
        · rw [it4_s, f_Fo_valueAt_L31, if_neg (nI_ge (by omega) (by omega)), gb_t hin, cl_nI (show 6 * a + 0 < 2 ^ 31 by omega), q3]
          simp only [letb]
          rw [if_neg (fun q => by rw [q] at hgt; exact Int32.lt_irrefl hgt), gb_t hin, if_neg (Int32.not_le.mpr hgt), if_pos (show nI (6 * a + 0) = nI (6 * a) from rfl)]
        · refine mo_above hR' (m + 1) 0 (by omega) (by omega) (fun j hj1 hj2 => ?_)
          by_cases hj : j = 0
          · subst hj; exact hgt
          · have := h6 0 j (by omega) hj2
            obtain ⟨s2, -⟩ := h5 j hj2
            exact Int32.lt_trans hgt (nI_lt this (by omega))
      · by_cases heq : nI (st (6 * a + i)) = x
        · refine ⟨nI (vl (6 * a + i)), ?_, ?_⟩
          · rw [it4_s, f_Fo_valueAt_L31, if_neg (nI_ge (by omega) (by omega)), gb_t hin, cl_nI (show 6 * a + i < 2 ^ 31 by omega), q3]
            simp only [letb]
            rw [if_pos heq, gb_t hin, q5]
          · rw [it1_s, f_Mo_valueOf_L5, gb_t (inb_of h1 (by decide)), cl_nI (show a < 2 ^ 31 by omega), h4]
            simp only [letb]
            rw [nI6, nI_add, if_neg (nI_ge (by omega) (by omega)), gb_t hin, cl_nI (show 6 * a + i < 2 ^ 31 by omega), q4, if_pos heq, gb_t hin, q6]
        · -- behind this point
          have hle : nI (st (6 * a + i)) ≤ x := Int32.not_lt.mp hgt
          have hlti : nI (st (6 * a + i)) < x := Int32.lt_of_le_of_ne hle heq
          have hlt' : ∀ j, j < i + 1 → nI (st (6 * a + j)) < x := fun j hj => by
            by_cases hji : j = i
            · subst hji; exact hlti
            · exact hlt j (by omega)
          have hc : it4 (f_Fo_valueAt_L31 f x) (M + 1) (nI a) (nI (6 * a)) (nI (6 * a + n)) (nI (6 * a + i)) = it4 (f_Fo_valueAt_L31 f x) M (nI a) (nI (6 * a)) (nI (6 * a + n)) (nI (6 * a + (i + 1))) := by
            rw [it4_s, f_Fo_valueAt_L31, if_neg (nI_ge (by omega) (by omega)), gb_t hin, cl_nI (show 6 * a + i < 2 ^ 31 by omega), q3]
            simp only [letb]
            rw [if_neg heq, gb_t hin, if_pos hle, nIp1]
            rfl
          rw [hc]
          by_cases hmid : i + 1 < n ∧ x < nI (st (6 * a + (i + 1)))
          · obtain ⟨hn1, hx2⟩ := hmid
            obtain ⟨M, rfl⟩ : ∃ M', M = M' + 1 := ⟨M - 1, by omega⟩
            obtain ⟨s2, v2, r3, r4, r5, r6⟩ := h5 (i + 1) hn1
            have hin2 : inb (nI (6 * a + (i + 1))) 192 = true := inb_of (by omega) (by decide)
            obtain ⟨s, -, hs2, rfl⟩ := i_range (x := x) (a := 0) (b := 10000) (by decide) (fun q => by
              have := Int32.lt_trans hlti q
              exact nI_pos (by omega) this) (Int32.le_of_lt (Int32.lt_of_lt_of_le hx2 (nI_le (b := 10000) s2 (by decide)))) (by decide)
            rw [nI_ltI (by omega) (by omega)] at hlti hx2
            obtain ⟨fl, u, hf, hu, he⟩ := betw (x := vl (6 * a + i)) rfl v1 v2 hlti hx2 s2
            refine ⟨nI (vl (6 * a + i)) - fl, ?_, ?_⟩
            · rw [it4_s, f_Fo_valueAt_L31, if_neg (nI_ge (by omega) (by omega)), gb_t hin2, cl_nI (show 6 * a + (i + 1) < 2 ^ 31 by omega), r3]
              simp only [letb]
              have hx3 : nI s < nI (st (6 * a + (i + 1))) := nI_lt hx2 (by omega)
              have hne : ¬ nI (6 * a + (i + 1)) = nI (6 * a) := fun q => by
                have := (nI_eq (by omega) (by omega)).mp q
                omega
              rw [if_neg (fun q => by rw [q] at hx3; exact Int32.lt_irrefl hx3), gb_t hin2, if_neg (Int32.not_le.mpr hx3), if_neg hne, show nI (6 * a + (i + 1)) - 1 = nI (6 * a + i) from nIs1 _]
              have hb : f_Fo_valueBetween f (nI (6 * a + i)) (nI (6 * a + (i + 1))) (nI s) = some (nI (vl (6 * a + i)) - fl) := by
                unfold f_Fo_valueBetween
                rw [gb_t hin2, cl_nI (show 6 * a + (i + 1) < 2 ^ 31 by omega), cl_nI (show 6 * a + i < 2 ^ 31 by omega), r3, q3, q5, r5]
                simp only [letb]
                rw [gb_t hin, nIsub (by omega), if_pos (show (1 : Int32) ≤ nI (st (6 * a + (i + 1)) - st (6 * a + i)) from nI_le (a := 1) (by omega) (by omega)), gb_t hin, gb_t hin2, gb_t hin, gb_t hin, hf, xv1_s]
              rw [hb, xv1_s]
            · rw [it1_s, f_Mo_valueOf_L5, gb_t (inb_of h1 (by decide)), cl_nI (show a < 2 ^ 31 by omega), h4]
              simp only [letb]
              have hx1 : nI (st (6 * a + i)) < nI s := nI_lt hlti (by omega)
              have hx3 : nI s < nI (st (6 * a + (i + 1))) := nI_lt hx2 (by omega)
              rw [nI6, nI_add, if_neg (nI_ge (by omega) (by omega)), gb_t hin, cl_nI (show 6 * a + i < 2 ^ 31 by omega), q4, if_neg heq, gb_t (inb_of h1 (by decide)), nIp1, if_neg (nI_ge (by omega) (by omega)), gb_t hin, if_neg (Int32.not_le.mpr hx1), show 6 * a + i + 1 = 6 * a + (i + 1) by omega, gb_t hin2, cl_nI (show 6 * a + (i + 1) < 2 ^ 31 by omega), r4, if_neg (Int32.not_le.mpr hx3), gb_t hin, gb_t hin2, gb_t hin, gb_t hin, gb_t hin2, gb_t hin, q6, r6, nIsub (show st (6 * a + i) ≤ st (6 * a + (i + 1)) by omega), hu, xv1_s, he]
          · -- one further
            have hnext : it1 (f_Mo_valueOf_L5 o (nI a) x) (m + 1) (nI (6 * a + i)) = it1 (f_Mo_valueOf_L5 o (nI a) x) m (nI (6 * a + (i + 1))) := by
              rw [it1_s, f_Mo_valueOf_L5, gb_t (inb_of h1 (by decide)), cl_nI (show a < 2 ^ 31 by omega), h4]
              unfold f_Mo_valueOf_J126
              simp only [letb]
              rw [nI6, nI_add, if_neg (nI_ge (by omega) (by omega)), gb_t hin, cl_nI (show 6 * a + i < 2 ^ 31 by omega), q4, if_neg heq, gb_t (inb_of h1 (by decide)), nIp1, show 6 * a + i + 1 = 6 * a + (i + 1) by omega]
              by_cases hn1 : i + 1 < n
              · have hin2 : inb (nI (6 * a + (i + 1))) 192 = true := inb_of (by omega) (by decide)
                obtain ⟨s2, v2, r3, r4, r5, r6⟩ := h5 (i + 1) hn1
                rw [if_neg (nI_ge (by omega) (by omega)), gb_t hin, if_neg (Int32.not_le.mpr hlti), gb_t hin2, cl_nI (show 6 * a + (i + 1) < 2 ^ 31 by omega), r4, if_pos (Int32.not_lt.mp (fun q => hmid ⟨hn1, q⟩))]
              · rw [if_pos (nI_le (by omega) (by omega))]
            rw [hnext]
            refine ih M (i + 1) (by omega) (by omega) (by omega) hlt' ?_
            by_cases hn1 : i + 1 < n
            · exact Or.inr (Or.inr (Int32.not_lt.mp (fun q => hmid ⟨hn1, q⟩)))
            · exact Or.inr (Or.inl (by omega))
theorem val_ok {f o : St} {a n : Nat} {st vl : Nat → Nat} (hR : Row f o a n st vl) (x : Int32) : ∃ r : Int32, it4 (f_Fo_valueAt_L31 f x) FU (nI a) (nI (6 * a)) (nI (6 * a + n)) (nI (6 * a)) = some (.inl r) ∧ f_Mo_valueOf o (nI a) x = some r := by
  have h6 := hR.2.1
  obtain ⟨r, q1, q2⟩ := val_l hR (x := x) FU FU 0 (Nat.zero_le _) (by unfold FU; omega) (by unfold FU; omega) (fun j hj => absurd hj (Nat.not_lt_zero j)) (Or.inl rfl)
  refine ⟨r, q1, ?_⟩
  unfold f_Mo_valueOf
  simp only [letb]
  rw [nI6]
  exact q2
theorem val_both {f o : St} (hF : RF f (o 4) (o 5) (o 6) (o 7) (o 8)) {rn : Nat → Nat} (f1 : ∀ k, k < 4 → rn k ≤ 8 ∧ f 1 k = nI (rn k)) {k r : Nat} (hk : k < 4) (hr : r < rn k) (x : Int32) : ∃ v : Int32, f_Fo_valueAt f (nI k) (nI r) x = some (.inl v) ∧ f_Mo_valueOf o (nI (8 * k + r)) x = some v := by
  obtain ⟨rn', pn, th, st, vl, f1', f2, f3, f4, f5, f6⟩ := hF
  obtain ⟨h8, hrn⟩ := f1 k hk
  generalize ha : 8 * k + r = a
  have ha32 : a < 32 := by omega
  obtain ⟨g1, g2, g3⟩ := f2 a ha32
  have hR : Row f o a (pn a) st vl := ⟨ha32, g1, g2, g3, fun i hi => by
    obtain ⟨w1, w2, w3, w4, w5, w6⟩ := f4 (6 * a + i) (by omega)
    exact ⟨w1, w2, w3, w4, w5, w6⟩, fun i j hij hj => f5 a i j ha32 hij hj⟩
  obtain ⟨v, q1, q2⟩ := val_ok hR x
  refine ⟨v, ?_, q2⟩
  unfold f_Fo_valueAt
  rw [place_ok hk hr h8 hrn, xc1_l, ha]
  simp only [letb]
  rw [gb_t (inb_of ha32 (by decide)), cl_nI (show a < 2 ^ 31 by omega), g2, nI6', nI_add]
  exact q1
theorem op_value {gGo gFo gPk : St} {qPk : Int64} {gSk gAi gSh gJo o : St} (h : INV gGo gFo gPk qPk gSk gAi gSh gJo o) (p1 p2 p3 : Int32) : AGR0 [(xIOE, 1)] (f_Cc_value gGo gFo gPk qPk gSk gAi gSh gJo p1 p2 p3) (f_Mo_value o p1 p2 p3) o (fun o' => INV gGo gFo gPk qPk gSk gAi gSh gJo o') := by
  have hI := h
  obtain ⟨-, hF, -⟩ := h
  have hF' := hF
  obtain ⟨rn, pn, th, st, vl, f1, -⟩ := hF
  unfold f_Cc_value f_Mo_value
  rcases isrow (o := o) (rn := rn) (fun k hk => ⟨(f1 k hk).1, (f1 k hk).2.2⟩) p1 p2 with ⟨k, r, hk, hr, rfl, rfl, hrow⟩ | ⟨hno, hrow⟩
  · obtain ⟨v, q1, q2⟩ := val_both (o := up2 o 0 0 0) hF' (rn := rn) (fun k hk => ⟨(f1 k hk).1, (f1 k hk).2.1⟩) hk hr p3
    rw [q1, hrow, xv1_s, goes_ok, xv2_s, if_neg n10, nI8, nI_add, q2]
    exact Or.inr ⟨v, up2 o 0 0 0, rfl, rfl, rfl, hI⟩
  · have hc : f_Fo_valueAt gFo p1 p2 p3 = some (.inr xIOE) := by
      unfold f_Fo_valueAt
      rw [place_no (rn := rn) (fun k hk => (f1 k hk).2.1) hno]
      rfl
    rw [hc, hrow]
    exact Or.inl ⟨xIOE, 1, 0, by simp, rfl, rfl⟩
theorem thick_l {f o : St} (hF : RF f (o 4) (o 5) (o 6) (o 7) (o 8)) {rn : Nat → Nat} {k : Nat} (hk : k < 4) (f1 : ∀ k, k < 4 → rn k ≤ 8 ∧ f 1 k = nI (rn k) ∧ o 4 k = nI (rn k)) (x lim : Int32) : ∀ (m lo hi : Nat), lo ≤ hi → hi ≤ rn k → hi - lo < m →
    ∃ r : Int32, it3 (f_Fo_leastThickness_L20 f (nI k) x lim) m (nI (rn k)) (nI lo) (nI hi) = some (.inl r) ∧ it3 (f_Mo_thickness_L28 (nI k) x lim) m (nI lo) (nI hi) o = some (r, o) := by
  obtain ⟨h8, e1, e2⟩ := f1 k hk
  intro m
  induction m with
  | zero => intro lo hi h1 h2 h3; omega
  | succ m ih =>
    intro lo hi h1 h2 h3
    rw [it3_s, it3_s, f_Fo_leastThickness_L20, f_Mo_thickness_L28]
    by_cases hl : lo = hi
    · subst hl
      rw [if_pos (nI_le (Nat.le_refl _) (by omega)), if_pos (nI_le (Nat.le_refl _) (by omega))]
      unfold f_Fo_leastThickness_X74 f_Mo_thickness_X110
      rw [gb_t (inb_of hk (by decide)), cl_nI (show k < 2 ^ 31 by omega), e2]
      simp only [letb]
      by_cases hr : lo = rn k
      · subst hr
        rw [if_pos (nI_le (Nat.le_refl _) (by omega)), if_pos (nI_le (Nat.le_refl _) (by omega))]
        exact ⟨-1, rfl, rfl⟩
      · obtain ⟨rn', pn, th, st, vl, f1', f2, f3, -⟩ := hF
        obtain ⟨t1, t2, t3⟩ := f3 (8 * k + lo) (by omega)
        rw [if_neg (nI_ge (by omega) (by omega)), if_neg (nI_ge (by omega) (by omega)), nI8', nI8, nI_add, gb_t (inb_of (show 8 * k + lo < 32 by omega) (by decide)), gb_t (inb_of (show 8 * k + lo < 32 by omega) (by decide)), cl_nI (show 8 * k + lo < 2 ^ 31 by omega), t2, t3]
        exact ⟨nI (th (8 * k + lo)), rfl, rfl⟩
    · rw [if_neg (nI_ge (by omega) (by omega)), if_neg (nI_ge (by omega) (by omega))]
      have hmid : (nI lo + nI hi) / 2 = nI ((lo + hi) / 2) := by rw [nI_add]; exact pk_div (d := 2) (by omega) (by omega) (by omega)
      simp only [letb]
      rw [hmid]
      obtain ⟨v, q1, q2⟩ := val_both hF (rn := rn) (fun k hk => ⟨(f1 k hk).1, (f1 k hk).2.1⟩) hk (show (lo + hi) / 2 < rn k by omega) x
      rw [q1, nI8, nI_add, q2, xc1_l, xv1_s]
      unfold f_Fo_leastThickness_J65 f_Fo_leastThickness_J71 f_Mo_thickness_J74 f_Mo_thickness_J75 f_Mo_thickness_J89 f_Mo_thickness_J105
      simp only [letb]
      rw [nIp1]
      have up := ih ((lo + hi) / 2 + 1) hi (by omega) h2 (by omega)
      have down := ih lo ((lo + hi) / 2) (by omega) (by omega) (by omega)
      by_cases c1 : v = -1
      · rw [if_pos c1, if_pos c1]; exact up
      · rw [if_neg c1, if_neg c1]
        by_cases c2 : lim < v
        · rw [if_pos c2, if_pos c2]; exact up
        · rw [if_neg c2, if_neg c2]; exact down
theorem op_thickness {gGo gFo gPk : St} {qPk : Int64} {gSk gAi gSh gJo o : St} (h : INV gGo gFo gPk qPk gSk gAi gSh gJo o) (p1 p2 p3 : Int32) : AGR0 [(xIOE, 1)] (f_Cc_thickness gGo gFo gPk qPk gSk gAi gSh gJo p1 p2 p3) (f_Mo_thickness o p1 p2 p3) o (fun o' => INV gGo gFo gPk qPk gSk gAi gSh gJo o') := by
  have hI := h
  obtain ⟨-, hF, -⟩ := h
  have hF' := hF
  obtain ⟨rn, pn, th, st, vl, f1, -⟩ := hF
  unfold f_Cc_thickness f_Fo_leastThickness f_Mo_thickness
  by_cases hv : ¬ p1 < 0 ∧ p1 < 4
  · have hv2 : p1 ≤ 3 := by rw [i_le]; have := i_lt.mp hv.2; have e3 : (4 : Int32).toInt = 4 := rfl; have e2 : (3 : Int32).toInt = 3 := rfl; omega
    rw [rIndex_ok hv.1 hv.2, wi_ok hv.1 hv2, xc0_l, xv1_s, goes_ok, xv2_s, if_neg n10]
    obtain ⟨k, hk, rfl⟩ := ix_of (n := 4) (by decide) hv.1 hv.2
    obtain ⟨r1, r2, r3⟩ := f1 k hk
    have hin : inb (nI k) 4 = true := inb_of hk (by decide)
    rw [gb_t hin, gb_t hin, cl_nI (show k < 2 ^ 31 by omega), r2, show (up2 o 0 0 0) 4 k = nI (rn k) from r3]
    obtain ⟨r, q1, q2⟩ := thick_l (o := up2 o 0 0 0) hF' hk f1 p2 p3 FU 0 (rn k) (Nat.zero_le _) (Nat.le_refl _) (by unfold FU; omega)
    refine Or.inr ⟨r, up2 o 0 0 0, ?_, q2, rfl, hI⟩
    show xc1 (it3 (f_Fo_leastThickness_L20 gFo (nI k) p2 p3) FU (nI (rn k)) (nI 0) (nI (rn k))) _ = _
    rw [q1]
    rfl
  · have hv2 : ¬ (¬ p1 < 0 ∧ p1 ≤ 3) := fun q => hv ⟨q.1, by rw [i_lt]; have := i_le.mp q.2; have e3 : (4 : Int32).toInt = 4 := rfl; have e2 : (3 : Int32).toInt = 3 := rfl; omega⟩
    rw [rIndex_no hv, wi_no hv2]
    exact Or.inl ⟨xIOE, 1, 0, by simp, rfl, rfl⟩
