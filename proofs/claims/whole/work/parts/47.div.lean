theorem bm {x : Int} (h1 : -2147483648 ≤ x) (h2 : x ≤ 2147483647) : x.bmod (2 ^ 32) = x := Int.bmod_eq_of_le (by simp; omega) (by simp; omega)
theorem t_add {a b : Int32} (h1 : -2147483648 ≤ a.toInt + b.toInt) (h2 : a.toInt + b.toInt ≤ 2147483647) : (a + b).toInt = a.toInt + b.toInt := by rw [Int32.toInt_add, bm h1 h2]
theorem t_sub {a b : Int32} (h1 : -2147483648 ≤ a.toInt - b.toInt) (h2 : a.toInt - b.toInt ≤ 2147483647) : (a - b).toInt = a.toInt - b.toInt := by rw [Int32.toInt_sub, bm h1 h2]
theorem t_mul {a b : Int32} (h1 : -2147483648 ≤ a.toInt * b.toInt) (h2 : a.toInt * b.toInt ≤ 2147483647) : (a * b).toInt = a.toInt * b.toInt := by rw [Int32.toInt_mul, bm h1 h2]
theorem nn_msb {x : Int32} : 0 ≤ x ↔ x.toBitVec.msb = false := by
  rw [i_le, BitVec.msb_eq_toInt, Int32.toInt_toBitVec, show (0 : Int32).toInt = 0 from rfl]
  simp
theorem xor_nn {a l : Int32} (hl : 0 ≤ l) : 0 ≤ a ^^^ l ↔ 0 ≤ a := by
  rw [nn_msb, nn_msb, show (a ^^^ l).toBitVec = a.toBitVec ^^^ l.toBitVec from rfl, BitVec.msb_xor, nn_msb.mp hl]
  simp
theorem tq_facts {A L : Int} (hL : 0 < L) (h1 : -1000000000 ≤ A) (h2 : A ≤ 1000000000) : L * A.tdiv L + A.tmod L = A ∧ -1000000000 ≤ A.tdiv L ∧ A.tdiv L ≤ 1000000000 ∧ (0 ≤ A → 0 ≤ A.tmod L ∧ A.tmod L < L) ∧ (A < 0 → -L < A.tmod L ∧ A.tmod L ≤ 0) := by
  have e := Int.mul_tdiv_add_tmod A L
  have n := Int.natAbs_tdiv_le_natAbs A L
  refine ⟨e, by omega, by omega, fun h => ⟨Int.tmod_nonneg L h, Int.tmod_lt_of_pos A hL⟩, fun h => ?_⟩
  have q1 := Int.tmod_nonneg (a := -A) L (by omega)
  have q2 := Int.tmod_lt_of_pos (-A) hL
  rw [Int.neg_tmod] at q1 q2
  omega
/-- Math.floorDiv by a positive number -/
theorem floor_ok {a l : Int32} (hl : 0 < l.toInt) (hl2 : l.toInt ≤ 1000000000) (h1 : -1000000000 ≤ a.toInt) (h2 : a.toInt ≤ 1000000000) : ∃ r, f_Ma_floorDiv a l = some r ∧ r.toInt = a.toInt / l.toInt := by
  obtain ⟨e, b1, b2, p, q⟩ := tq_facts hl h1 h2
  have hq : (a / l).toInt = a.toInt.tdiv l.toInt := by rw [Int32.toInt_div, bm (by omega) (by omega)]
  have hnz : nz l = true := decide_eq_true (fun h => by rw [h] at hl; exact absurd hl (by decide))
  have hl0 : 0 ≤ l := by rw [i_le, show (0 : Int32).toInt = 0 from rfl]; omega
  have ha0 : 0 ≤ a ↔ 0 ≤ a.toInt := by rw [i_le, show (0 : Int32).toInt = 0 from rfl]
  unfold f_Ma_floorDiv
  rw [gb_t hnz]
  simp only [letb]
  by_cases c1 : 0 ≤ a.toInt
  · rw [if_pos ((xor_nn hl0).mpr (ha0.mpr c1))]
    refine ⟨_, rfl, ?_⟩
    rw [hq]
    obtain ⟨p1, p2⟩ := p c1
    exact (((Int.ediv_emod_unique hl).mpr ⟨by omega, p1, p2⟩).1).symm
  · rw [if_neg (fun h => c1 (ha0.mp ((xor_nn hl0).mp h)))]
    obtain ⟨q1, q2⟩ := q (by omega)
    have hm : (a / l * l).toInt = a.toInt - a.toInt.tmod l.toInt := by
      have e3 : (a / l).toInt * l.toInt = a.toInt - a.toInt.tmod l.toInt := by rw [hq, Int.mul_comm]; omega
      rw [t_mul (by rw [e3]; omega) (by rw [e3]; omega), e3]
    by_cases c2 : a / l * l = a
    · rw [if_pos c2]
      refine ⟨_, rfl, ?_⟩
      rw [hq]
      rw [c2] at hm
      exact (((Int.ediv_emod_unique (r := 0) hl).mpr ⟨by omega, by omega, by omega⟩).1 : a.toInt / l.toInt = _).symm
    · rw [if_neg c2]
      have hne : a.toInt.tmod l.toInt ≠ 0 := fun hz => c2 (i_eq.mpr (by rw [hm, hz]; omega))
      refine ⟨_, rfl, ?_⟩
      rw [t_sub (by rw [hq, show (1 : Int32).toInt = 1 from rfl]; omega) (by rw [hq, show (1 : Int32).toInt = 1 from rfl]; omega), hq, show (1 : Int32).toInt = 1 from rfl]
      have hmul : l.toInt * (a.toInt.tdiv l.toInt - 1) = l.toInt * a.toInt.tdiv l.toInt - l.toInt := by rw [Int.mul_sub, Int.mul_one]
      exact (((Int.ediv_emod_unique (r := a.toInt.tmod l.toInt + l.toInt) hl).mpr ⟨by omega, by omega, by omega⟩).1).symm
/-- up: rounded up, by a positive number -/
theorem up_ok {a l : Int32} (hl : 0 < l.toInt) (hl2 : l.toInt ≤ 1000000000) (h1 : -1000000000 ≤ a.toInt) (h2 : a.toInt ≤ 1000000000) : ∃ r, f_Mo_up a l = some r ∧ r.toInt = -((-a.toInt) / l.toInt) := by
  obtain ⟨e, b1, b2, p, q⟩ := tq_facts hl h1 h2
  have hq : (a / l).toInt = a.toInt.tdiv l.toInt := by rw [Int32.toInt_div, bm (by omega) (by omega)]
  have hnz : nz l = true := decide_eq_true (fun h => by rw [h] at hl; exact absurd hl (by decide))
  have e3 : (a / l).toInt * l.toInt = a.toInt - a.toInt.tmod l.toInt := by rw [hq, Int.mul_comm]; omega
  have hpq : -l.toInt < a.toInt.tmod l.toInt ∧ a.toInt.tmod l.toInt < l.toInt := by
    by_cases c : 0 ≤ a.toInt
    · have := p c; omega
    · have := q (by omega); omega
  have hm : (a / l * l).toInt = a.toInt - a.toInt.tmod l.toInt := by
    rw [t_mul (by rw [e3]; omega) (by rw [e3]; omega), e3]
  unfold f_Mo_up
  rw [gb_t hnz]
  simp only [letb]
  by_cases c1 : a ≤ a / l * l
  · rw [if_pos c1]
    refine ⟨_, rfl, ?_⟩
    rw [i_le, hm] at c1
    rw [hq]
    have hmul : l.toInt * (-a.toInt.tdiv l.toInt) = -(l.toInt * a.toInt.tdiv l.toInt) := by rw [Int.mul_neg]
    have := ((Int.ediv_emod_unique (a := -a.toInt) (r := -a.toInt.tmod l.toInt) (q := -a.toInt.tdiv l.toInt) hl).mpr ⟨by omega, by omega, by omega⟩).1
    omega
  · rw [if_neg c1]
    refine ⟨_, rfl, ?_⟩
    rw [i_le, hm] at c1
    rw [t_add (by rw [hq, show (1 : Int32).toInt = 1 from rfl]; omega) (by rw [hq, show (1 : Int32).toInt = 1 from rfl]; omega), hq, show (1 : Int32).toInt = 1 from rfl]
    have hmul : l.toInt * (-a.toInt.tdiv l.toInt - 1) = -(l.toInt * a.toInt.tdiv l.toInt) - l.toInt := by rw [Int.mul_sub, Int.mul_neg, Int.mul_one]
    have := ((Int.ediv_emod_unique (a := -a.toInt) (r := l.toInt - a.toInt.tmod l.toInt) (q := -a.toInt.tdiv l.toInt - 1) hl).mpr ⟨by omega, by omega, by omega⟩).1
    omega
theorem ediv_bd {A L : Int} (hL : 0 < L) : (0 ≤ A → 0 ≤ A / L ∧ A / L ≤ A) ∧ (A < 0 → A ≤ A / L ∧ A / L < 0) := by
  constructor
  · intro h
    exact ⟨Int.ediv_nonneg h (by omega), Int.ediv_le_self L h⟩
  · intro h
    refine ⟨?_, Int.ediv_neg_of_neg_of_pos h hL⟩
    rw [Int.le_ediv_iff_mul_le hL]
    have : A * L ≤ A * 1 := Int.mul_le_mul_of_nonpos_left (by omega) (by omega)
    omega
theorem clim_core {now d : Int32} {lg : Nat} (hl1 : 1 ≤ lg) (hl2 : lg ≤ 100) (hn : -60000 ≤ now.toInt ∧ now.toInt ≤ 60000) (hd : -60 ≤ d.toInt ∧ d.toInt ≤ 60) :
    ∃ f u v : Int32, f_Ma_floorDiv (d * 1000 - now) (nI lg) = some f ∧ f_Mo_up (now - 1000 * d) (nI lg) = some u ∧ now + f = v ∧ now - u = v ∧ -60000 ≤ v.toInt ∧ v.toInt ≤ 60000 := by
  have k1 : (1000 : Int32).toInt = 1000 := rfl
  have e1 : (d * 1000).toInt = d.toInt * 1000 := by rw [t_mul (by rw [k1]; omega) (by rw [k1]; omega), k1]
  have e2 : (1000 * d).toInt = d.toInt * 1000 := by rw [Int32.mul_comm, e1]
  have e3 : (d * 1000 - now).toInt = d.toInt * 1000 - now.toInt := by rw [t_sub (by rw [e1]; omega) (by rw [e1]; omega), e1]
  have e4 : (now - 1000 * d).toInt = now.toInt - d.toInt * 1000 := by rw [t_sub (by rw [e2]; omega) (by rw [e2]; omega), e2]
  have hL : (nI lg).toInt = lg := nI_toInt (by omega)
  obtain ⟨f, hf1, hf2⟩ := floor_ok (a := d * 1000 - now) (l := nI lg) (by omega) (by omega) (by omega) (by omega)
  obtain ⟨u, hu1, hu2⟩ := up_ok (a := now - 1000 * d) (l := nI lg) (by omega) (by omega) (by omega) (by omega)
  rw [e3, hL] at hf2
  rw [e4, hL, show -(now.toInt - d.toInt * 1000) = d.toInt * 1000 - now.toInt by omega] at hu2
  obtain ⟨b1, b2⟩ := ediv_bd (A := d.toInt * 1000 - now.toInt) (L := (lg : Int)) (by omega)
  have hb : -120000 ≤ f.toInt ∧ f.toInt ≤ 120000 ∧ -60000 ≤ now.toInt + f.toInt ∧ now.toInt + f.toInt ≤ 60000 := by
    rw [hf2]
    by_cases c : 0 ≤ d.toInt * 1000 - now.toInt
    · have := b1 c; omega
    · have := b2 (by omega); omega
  have ev : (now + f).toInt = now.toInt + f.toInt := t_add (by omega) (by omega)
  have eu : (now - u).toInt = now.toInt + f.toInt := by rw [t_sub (by omega) (by omega), hu2, hf2]; omega
  exact ⟨f, u, now + f, hf1, hu1, rfl, i_eq.mpr (by rw [eu, ev]), by omega, by omega⟩
theorem op_climate {gGo gFo gPk : St} {qPk : Int64} {gSk gAi gSh gJo o : St} (h : INV gGo gFo gPk qPk gSk gAi gSh gJo o) (p1 : Int32) : AGR [(xISE, 1), (xIAE, 2)] (f_Cc_climate gGo gFo gPk qPk gSk gAi gSh gJo p1) (f_Mo_climate o p1) o (fun x o' => INV gGo gFo gPk qPk gSk x gSh gJo o') := by
  obtain ⟨hG, hF, hP, hS, ⟨n, lg, h1, h2, h3, h4, h5, h6, h7, h8⟩, hH, hJ⟩ := h
  unfold f_Cc_climate f_Mo_climate f_Mo_climate_J16
  by_cases hn : n = 200
  · subst hn
    have hc : f_Ai_nextHour gAi p1 = some (.inr xISE) := by
      unfold f_Ai_nextHour
      rw [rRoom_no (by rw [h2]; decide)]
      rfl
    rw [hc, h3, if_pos (by decide)]
    rcases wi_cases p1 (-60) 60 with e | e <;> rw [e] <;> exact Or.inl ⟨xISE, 1, 0, by simp, rfl, rfl⟩
  · have hlt : nI n < 200 := nI_lt (b := 200) (by omega) (by decide)
    have hr : f_Cc_requireRoom (gAi 0 1) 200 = some (.inl ()) := rRoom_ok (by rw [h2]; exact hlt)
    rw [h3, if_neg (Int32.not_le.mpr hlt)]
    by_cases hv : ¬ p1 < (-60) ∧ p1 ≤ 60
    · have hd : -60 ≤ p1.toInt ∧ p1.toInt ≤ 60 := by
        have a1 := hv.1
        have a2 := hv.2
        rw [i_lt, show (-60 : Int32).toInt = -60 from rfl] at a1
        rw [i_le, show (60 : Int32).toInt = 60 from rfl] at a2
        omega
      rw [wi_ok hv.1 hv.2]
      have core : ∀ now : Int32, -60000 ≤ now.toInt ∧ now.toInt ≤ 60000 → AGR [(xISE, 1), (xIAE, 2)] (xc2 (f_Ai_nextHour_J42 gAi p1 now) (fun r_1 gAi_2 => some (.inl (r_1, gAi_2)))) (f_Mo_climate_J57 p1 now (up2 o 0 0 0)) o (fun x o' => INV gGo gFo gPk qPk gSk x gSh gJo o') := by
        intro now hnow
        obtain ⟨f, u, v, q1, q2, q3, q4, q5, q6⟩ := clim_core h4 h5 hnow hd
        have hin : inb (nI n) 200 = true := inb_of (by omega) (by decide)
        have hmax : f_Ma_max (gAi 0 2) 1 = some (nI lg) := by
          unfold f_Ma_max
          rw [h6, if_neg (by rw [i_lt, nI_toInt (by omega), show (1 : Int32).toInt = 1 from rfl]; omega)]
        have hc : f_Ai_nextHour_J42 gAi p1 now = some (.inl (v, up2 (up2 gAi 1 n v) 0 1 (nI (n + 1)))) := by
          unfold f_Ai_nextHour_J42
          rw [hmax, xv1_s, q1, xv1_s, h2]
          refine (gb_t hin).trans ?_
          show some (Sum.inl (now + f, up2 (up2 gAi 1 (nI n).toNatClampNeg (now + f)) 0 1 (gAi 0 1 + 1))) = _
          rw [q3, h2, nIp1, cl_nI (by omega)]
        have hm : f_Mo_climate_J57 p1 now (up2 o 0 0 0) = some (v, up2 (up2 (up2 o 0 0 0) 14 n v) 0 21 (nI (n + 1))) := by
          unfold f_Mo_climate_J57
          rw [show (up2 o 0 0 0) 0 23 = nI lg from h7, q2, xv1_s, show (up2 o 0 0 0) 0 21 = nI n from h3]
          refine (gb_t hin).trans ?_
          rw [q4, cl_nI (show n < 2 ^ 31 by omega)]
          simp only [letb]
          rw [show (up2 (up2 o 0 0 0) 14 n v) 0 21 = nI n from h3, nIp1, show (up2 (up2 (up2 o 0 0 0) 14 n v) 0 21 (nI (n + 1))) 0 21 = nI (n + 1) from rfl]
          have hin2 : inb (nI (n + 1) - 1) 200 = true := by rw [nIs1]; exact hin
          refine (gb_t hin2).trans ?_
          show some ((up2 (up2 (up2 o 0 0 0) 14 n v) 0 21 (nI (n + 1))) 14 (nI (n + 1) - 1).toNatClampNeg, up2 (up2 (up2 o 0 0 0) 14 n v) 0 21 (nI (n + 1))) = _
          rw [nIs1, cl_nI (show n < 2 ^ 31 by omega)]
          simp [up2_at]
        rw [hc]
        refine Or.inr ⟨v, up2 (up2 gAi 1 n v) 0 1 (nI (n + 1)), up2 (up2 (up2 o 0 0 0) 14 n v) 0 21 (nI (n + 1)), rfl, hm, rfl, hG, hF, hP, hS, ⟨n + 1, lg, by omega, rfl, rfl, h4, h5, h6, h7, ?_⟩, hH, hJ⟩
        intro j hj
        by_cases hjn : j = n
        · subst hjn
          simp [up2_at]
          omega
        · simp [up2_at, hjn]
          exact h8 j (by omega)
      have hc0 : f_Ai_nextHour gAi p1 = if gAi 0 1 = 0 then (f_Ai_nextHour_J42 gAi p1 20000) else (gb (inb ((gAi 0 1) - 1) 200) (letb (gAi 1 ((gAi 0 1) - 1 : Int32).toNatClampNeg) (fun x_12 => f_Ai_nextHour_J42 gAi p1 x_12))) := by
        unfold f_Ai_nextHour
        rw [hr, rRange_ok hv.1 hv.2]
        rfl
      rw [hc0, h2]
      show AGR _ _ (if o 0 21 = 0 then (f_Mo_climate_J57 p1 20000 (up2 o 0 0 0)) else (gb (inb ((o 0 21) - 1) 200) (letb (o 14 ((o 0 21) - 1 : Int32).toNatClampNeg) (fun x_16 => f_Mo_climate_J57 p1 x_16 (up2 o 0 0 0))))) _ _
      rw [h3]
      by_cases h0 : n = 0
      · subst h0
        rw [if_pos (show nI 0 = 0 from rfl), if_pos (show nI 0 = 0 from rfl)]
        exact core 20000 ⟨by decide, by decide⟩
      · obtain ⟨k, rfl⟩ : ∃ k, n = k + 1 := ⟨n - 1, by omega⟩
        have hz : ¬ nI (k + 1) = 0 := nI_ne0 (by omega) (by omega)
        have hin : inb (nI k) 200 = true := inb_of (by omega) (by decide)
        rw [if_neg hz, if_neg hz, nIs1, gb_t hin, gb_t hin, cl_nI (show k < 2 ^ 31 by omega)]
        simp only [letb]
        rw [(h8 k (by omega)).1]
        exact core _ (h8 k (by omega)).2
    · have hc : f_Ai_nextHour gAi p1 = some (.inr xIAE) := by
        unfold f_Ai_nextHour
        rw [hr, rRange_no hv]
        rfl
      rw [hc, wi_no hv]
      exact Or.inl ⟨xIAE, 2, 0, by simp, rfl, rfl⟩
