/-- a crate of l, w, h has room for a, b, d -/
def RMp (l w h a b d : Int32) : Prop := ((¬ l < a ∧ ¬ w < b) ∨ (¬ l < b ∧ ¬ w < a)) ∧ ¬ h < d
theorem sk_room {g : St} {j : Nat} (hj : j < 10) (a b d : Int32) : (RMp (g 1 j) (g 2 j) (g 3 j) a b d ∧ f_Sk_hasRoom g (nI j) a b d = some 1) ∨ (¬ RMp (g 1 j) (g 2 j) (g 3 j) a b d ∧ f_Sk_hasRoom g (nI j) a b d = some 0) := by
  have hin : inb (nI j) 10 = true := inb_of hj (by decide)
  unfold f_Sk_hasRoom f_Sk_hasRoom_J24 f_Sk_hasRoom_J25 f_Sk_hasRoom_J51 f_Sk_hasRoom_J52 f_Sk_hasRoom_J75 RMp
  simp only [letb, gb_t hin, cl_nI (show j < 2 ^ 31 by omega)]
  by_cases c1 : g 1 j < a <;> by_cases c2 : g 2 j < b <;> by_cases c3 : g 1 j < b <;> by_cases c4 : g 2 j < a <;> by_cases c5 : g 3 j < d <;> simp [c1, c2, c3, c4, c5]
theorem mo_room {o : St} {j : Nat} (hj : j < 10) : (RMp (o 12 (3 * j)) (o 12 (3 * j + 1)) (o 12 (3 * j + 2)) (o 0 14) (o 0 15) (o 0 16) ∧ f_Mo_hasRoom o (nI j) = some 1) ∨ (¬ RMp (o 12 (3 * j)) (o 12 (3 * j + 1)) (o 12 (3 * j + 2)) (o 0 14) (o 0 15) (o 0 16) ∧ f_Mo_hasRoom o (nI j) = some 0) := by
  have i1 : inb (nI (3 * j)) 30 = true := inb_of (by omega) (by decide)
  have i2 : inb (nI (3 * j + 1)) 30 = true := inb_of (by omega) (by decide)
  have i3 : inb (nI (3 * j + 2)) 30 = true := inb_of (by omega) (by decide)
  unfold f_Mo_hasRoom f_Mo_hasRoom_J40 f_Mo_hasRoom_J41 f_Mo_hasRoom_J63 f_Mo_hasRoom_J64 f_Mo_hasRoom_J76 RMp
  simp only [letb, nI3, nIp1, nIp2, gb_t i1, gb_t i2, gb_t i3, cl_nI (show 3 * j < 2 ^ 31 by omega), cl_nI (show 3 * j + 1 < 2 ^ 31 by omega), cl_nI (show 3 * j + 2 < 2 ^ 31 by omega)]
  by_cases c1 : o 12 (3 * j) < o 0 14 <;> by_cases c2 : o 12 (3 * j + 1) < o 0 15 <;> by_cases c3 : o 12 (3 * j) < o 0 15 <;> by_cases c4 : o 12 (3 * j + 1) < o 0 14 <;> by_cases c5 : o 12 (3 * j + 2) < o 0 16 <;> simp [c1, c2, c3, c4, c5]
theorem cmp_ge {x y : Int64} : 0 ≤ lg_cmp x y ↔ ¬ x < y := by
  rw [lg_cmp_ge, Int64.not_lt]
theorem n10 : ¬ (1 : Int32) = 0 := by decide
theorem nI_m1 {n : Nat} (h : n < 2 ^ 31) : ¬ nI n = -1 := by
  intro q
  have := congrArg Int32.toInt q
  rw [nI_toInt h, show (-1 : Int32).toInt = -1 from rfl] at this
  omega
def Jm (n : Nat) (best : Int32) (lc lm : Int64) : Prop := (best = -1 ∧ lc = 9223372036854775807) ∨ (∃ b : Nat, b < n ∧ best = nI b ∧ lc = lm)
theorem mt_l {g o : St} {n : Nat} (hR : RS g (o 0 18) (o 12) (o 13)) (hn : g 0 4 = nI n) (hn10 : n ≤ 10) : ∀ (m i : Nat), i ≤ n → n < i + m → ∀ (best : Int32) (lc lm : Int64), Jm n best lc lm →
    ∃ (best' : Int32) (lc' lm' : Int64), Jm n best' lc' lm' ∧ it3 (f_Sk_takeFor_L11 g (o 0 14) (o 0 15) (o 0 16)) m best lc (nI i) = f_Sk_takeFor_X92 g best' lc' (nI n) ∧ it4 (f_Mo_match_L22) m best lm (nI i) o = f_Mo_match_X112 best' lm' (nI n) o := by
  obtain ⟨n', h1, h2, h3, h4, h5, h6⟩ := hR
  have e : n' = n := (nI_eq (by omega) (by omega)).mp (h2.symm.trans hn)
  subst e
  intro m
  induction m with
  | zero => intro i h1 h2; omega
  | succ m ih =>
    intro i hi1 hi2 best lc lm hJ
    rw [it3_s, it4_s, f_Sk_takeFor_L11, f_Mo_match_L22, h2, h3]
    by_cases hi : i = n'
    · subst hi
      rw [if_pos (nI_le (Nat.le_refl i) (by omega)), if_pos (nI_le (Nat.le_refl i) (by omega))]
      exact ⟨best, lc, lm, hJ, rfl, rfl⟩
    · rw [if_neg (nI_ge (by omega) (by omega)), if_neg (nI_ge (by omega) (by omega))]
      obtain ⟨⟨v1, a1, a2, a3, a4⟩, ⟨v2, b1, b2, b3, b4⟩, ⟨v3, d1, d2, d3, d4⟩⟩ := h4 i (by omega)
      have hin : inb (nI i) 10 = true := inb_of (by omega) (by decide)
      have i1 : inb (nI (3 * i)) 30 = true := inb_of (by omega) (by decide)
      have i2 : inb (nI (3 * i + 1)) 30 = true := inb_of (by omega) (by decide)
      have i3 : inb (nI (3 * i + 2)) 30 = true := inb_of (by omega) (by decide)
      simp only [letb, nI3, nIp1, nIp2, gb_t hin, gb_t i1, gb_t i2, gb_t i3, cl_nI (show i < 2 ^ 31 by omega), cl_nI (show 3 * i < 2 ^ 31 by omega), cl_nI (show 3 * i + 1 < 2 ^ 31 by omega), cl_nI (show 3 * i + 2 < 2 ^ 31 by omega)]
      rw [a3, b3, d3, a4, b4, d4, (h5 i (by omega)).1]
      have hprod : (nI v1).toInt64 * (nI v2).toInt64 * (nI v3).toInt64 = lN (v1 * v2 * v3) := by rw [nI_l (by omega), nI_l (by omega), nI_l (by omega), lN_mul, lN_mul]
      rw [hprod]
      have hpl : v1 * v2 * v3 ≤ 2000 * 2000 * 2000 := Nat.mul_le_mul (Nat.mul_le_mul a2 b2) d2
      generalize hP : v1 * v2 * v3 = P at hpl
      have hPm : lN P < 9223372036854775807 := by
        rw [Int64.lt_iff_toInt_lt, pk_lT (by omega), show (9223372036854775807 : Int64).toInt = 9223372036854775807 from rfl]
        omega
      unfold f_Sk_takeFor_J86 f_Mo_match_J100 f_Mo_match_J106
      simp only [letb, nIp1]
      have same := ih (i + 1) (by omega) (by omega) best lc lm hJ
      have new := ih (i + 1) (by omega) (by omega) (nI i) (lN P) (lN P) (Or.inr ⟨i, by omega, rfl, rfl⟩)
      by_cases ht : o 13 i = 0
      · rw [if_pos ht, if_pos ht]
        have r1 := sk_room (g := g) (j := i) (by omega) (o 0 14) (o 0 15) (o 0 16)
        have r2 := mo_room (o := o) (j := i) (by omega)
        rw [a3, b3, d3] at r1
        rw [a4, b4, d4] at r2
        rcases r1 with ⟨q1, e1⟩ | ⟨q1, e1⟩
        · rcases r2 with ⟨q2, e2⟩ | ⟨q2, e2⟩
          · rw [e1, e2, xv1_s, xv1_s, if_neg n10, if_neg n10]
            rcases hJ with ⟨k1, k2⟩ | ⟨b, k1, k2, k3⟩
            · rw [if_pos k1, if_neg (fun q => cmp_ge.mp q (by rw [k2]; exact hPm))]
              exact new
            · rw [if_neg (show ¬ best = -1 by rw [k2]; exact nI_m1 (by omega)), k3]
              rw [k3] at same
              by_cases hc : 0 ≤ lg_cmp (lN P) lm
              · rw [if_pos hc, if_pos hc]; exact same
              · rw [if_neg hc, if_neg hc]; exact new
          · exact absurd q1 q2
        · rcases r2 with ⟨q2, e2⟩ | ⟨q2, e2⟩
          · exact absurd q2 q1
          · rw [e1, e2, xv1_s, xv1_s, if_pos rfl, if_pos rfl]
            exact same
      · rw [if_neg ht, if_neg ht]
        exact same
theorem op_match {gGo gFo gPk : St} {qPk : Int64} {gSk gAi gSh gJo o : St} (h : INV gGo gFo gPk qPk gSk gAi gSh gJo o) : AGR [(xISE, 1)] (f_Cc_match gGo gFo gPk qPk gSk gAi gSh gJo) (f_Mo_match o) o (fun x o' => INV gGo gFo gPk qPk x gAi gSh gJo o') := by
  obtain ⟨hG, hF, hP, hS, hA, hH, hJ⟩ := h
  unfold f_Cc_match f_Mo_match
  rcases RP_pk hP with ⟨e1, e2⟩ | ⟨e1, e2, e3, e4, e5⟩
  · have hc : f_Pk_sizeAlong gPk qPk 0 = some (.inr xISE) := by
      unfold f_Pk_sizeAlong f_Pk_requirePacked
      rw [if_pos e1]
      rfl
    rw [hc, e2]
    exact Or.inl ⟨xISE, 1, 0, by simp, rfl, rfl⟩
  · have hq : f_Pk_requirePacked gPk qPk = some (.inl ()) := by
      unfold f_Pk_requirePacked
      rw [if_neg (by rw [e1]; decide)]
    have c0 : f_Pk_sizeAlong gPk qPk 0 = some (.inl (o 0 14)) := by
      unfold f_Pk_sizeAlong
      rw [hq, ← e3]
      rfl
    have c1 : f_Pk_sizeAlong gPk qPk 1 = some (.inl (o 0 15)) := by
      unfold f_Pk_sizeAlong
      rw [hq, ← e4]
      rfl
    have c2 : f_Pk_sizeAlong gPk qPk 2 = some (.inl (o 0 16)) := by
      unfold f_Pk_sizeAlong
      rw [hq, ← e5]
      rfl
    rw [c0, xc1_l, c1, xc1_l, c2, xc1_l, e2, goes_ok, xv2_s, if_neg (by decide)]
    have hS' := hS
    obtain ⟨n, h1, h2, h3, h4, h5, h6⟩ := hS
    obtain ⟨best', lc', lm', hJm, q1, q2⟩ := mt_l (g := gSk) (o := up2 o 0 0 0) hS' h2 h1 FU 0 (Nat.zero_le _) (by unfold FU; omega) (-1) 9223372036854775807 0 (Or.inl ⟨rfl, rfl⟩)
    have q1' : f_Sk_takeFor gSk (o 0 14) (o 0 15) (o 0 16) = f_Sk_takeFor_X92 gSk best' lc' (nI n) := q1
    have q2' : it4 (f_Mo_match_L22) FU (-1) 0 0 (up2 o 0 0 0) = f_Mo_match_X112 best' lm' (nI n) (up2 o 0 0 0) := q2
    rw [q1', q2']
    unfold f_Sk_takeFor_X92 f_Mo_match_X112
    rcases hJm with ⟨k1, -⟩ | ⟨b, k1, k2, -⟩
    · rw [if_pos k1, if_pos k1]
      exact Or.inr ⟨best', gSk, up2 o 0 0 0, rfl, rfl, rfl, hG, hF, hP, hS', hA, hH, hJ⟩
    · subst k2
      rw [if_neg (nI_m1 (by omega)), if_neg (nI_m1 (by omega)), gb_t (inb_of (show b < 10 by omega) (by decide)), gb_t (inb_of (show b < 10 by omega) (by decide)), cl_nI (show b < 2 ^ 31 by omega)]
      refine Or.inr ⟨nI b, up2 gSk 4 b 1, up2 (up2 o 0 0 0) 13 b 1, rfl, rfl, rfl, hG, hF, hP, ⟨n, h1, h2, h3, h4, ?_, ?_⟩, hA, hH, hJ⟩
      · intro i hi
        rw [up2_at, up2_at]
        by_cases hij : i = b
        · simp [hij]
        · simp [hij]
          exact h5 i hi
      · intro i hn hi
        rw [up2_at]
        have hij : ¬ i = b := by omega
        simp [hij]
        exact h6 i hn hi
