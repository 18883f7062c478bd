theorem begs_congr {len len' : Nat → Nat} {way : Nat → Int32} {gap : Nat} : ∀ {j : Nat}, (∀ z, z < j → ¬ way z = -1 → len z = len' z) → begs len way gap j = begs len' way gap j
  | 0, _ => rfl
  | j + 1, h => by
    have ih := begs_congr (gap := gap) (j := j) (fun z hz hw => h z (by omega) hw)
    unfold begs
    by_cases hw : way j = -1
    · rw [if_pos hw, if_pos hw, ih]
    · rw [if_neg hw, if_neg hw, ih, h j (by omega) hw]
theorem ax0_lt (w : Nat) : ax0 w < 3 := by
  unfold ax0
  match w with
  | 0 => decide
  | 1 => decide
  | 2 => decide
  | 3 => decide
  | 4 => decide
  | 5 => decide
  | w + 6 => simp
theorem object_1 (o : St) (p1 p2 p3 p4 : Int32) : ∃ b, f_Mo_object_J15 o p1 p2 p3 p4 0 = some (b, up2 o 0 0 1) := by
  unfold f_Mo_object_J15
  rcases wi_cases p1 1 200 with e1 | e1 <;> rcases wi_cases p2 1 200 with e2 | e2 <;> rcases wi_cases p3 1 200 with e3 | e3 <;> rcases wi_cases p4 1 100000 with e4 | e4 <;> rw [e1, e2, e3, e4] <;> exact ⟨0, rfl⟩
theorem go_add_ok {g : St} {n : Nat} (hn : n < 6) (h2 : g 0 5 = nI n) {p1 p2 p3 p4 : Int32} (v1 : ¬ p1 < 1 ∧ p1 ≤ 200) (v2 : ¬ p2 < 1 ∧ p2 ≤ 200) (v3 : ¬ p3 < 1 ∧ p3 ≤ 200) (v4 : ¬ p4 < 1 ∧ p4 ≤ 100000) :
    f_Go_add g p1 p2 p3 p4 = some (.inl (nI n, up2 (up2 (up2 (up2 (up2 g 1 (3 * n) p1) 1 (3 * n + 1) p2) 1 (3 * n + 2) p3) 2 n p4) 0 5 (nI (n + 1)))) := by
  have hlt : g 0 5 < 6 := by rw [h2]; exact nI_lt (b := 6) hn (by decide)
  unfold f_Go_add
  rw [rRoom_ok hlt, rRange_ok v1.1 v1.2, rRange_ok v2.1 v2.2, rRange_ok v3.1 v3.2, rRange_ok v4.1 v4.2]
  have i1 : inb (g 0 5 * 3) 18 = true := by rw [h2, nI3']; exact inb_of (by omega) (by decide)
  have i2 : inb (g 0 5 * 3 + 1) 18 = true := by rw [h2, nI3', nIp1]; exact inb_of (by omega) (by decide)
  have i3 : inb (g 0 5 * 3 + 2) 18 = true := by rw [h2, nI3', nIp2]; exact inb_of (by omega) (by decide)
  have i4 : inb (g 0 5) 6 = true := by rw [h2]; exact inb_of (by omega) (by decide)
  refine (gb_t i1).trans ?_
  refine (gb_t i2).trans ?_
  refine (gb_t i3).trans ?_
  refine (gb_t i4).trans ?_
  show some (Sum.inl (g 0 5 + 1 - 1, up2 (up2 (up2 (up2 (up2 g 1 (g 0 5 * 3).toNatClampNeg p1) 1 (g 0 5 * 3 + 1).toNatClampNeg p2) 1 (g 0 5 * 3 + 2).toNatClampNeg p3) 2 (g 0 5).toNatClampNeg p4) 0 5 (g 0 5 + 1))) = _
  rw [h2, nIp1, nIs1, nI3', nIp1, nIp2, cl_nI (by omega), cl_nI (by omega), cl_nI (by omega), cl_nI (by omega)]
theorem mo_object_ok {o : St} {n : Nat} (hn : n < 6) (h3 : o 0 1 = nI n) {p1 p2 p3 p4 : Int32} :
    f_Mo_object_J64 o p1 p2 p3 p4 1 1 = some (nI n, up2 (up2 (up2 (up2 (up2 (up2 o 0 0 0) 1 (3 * n) p1) 1 (3 * n + 1) p2) 1 (3 * n + 2) p3) 2 n p4) 0 1 (nI (n + 1))) := by
  unfold f_Mo_object_J64
  rw [goes_ok, xv2_s, if_neg (by decide)]
  have i1 : inb (3 * o 0 1) 18 = true := by rw [h3, nI3]; exact inb_of (by omega) (by decide)
  have i2 : inb (3 * o 0 1 + 1) 18 = true := by rw [h3, nI3, nIp1]; exact inb_of (by omega) (by decide)
  have i3 : inb (3 * o 0 1 + 2) 18 = true := by rw [h3, nI3, nIp2]; exact inb_of (by omega) (by decide)
  have i4 : inb (o 0 1) 6 = true := by rw [h3]; exact inb_of (by omega) (by decide)
  refine (gb_t i1).trans ?_
  refine (gb_t i2).trans ?_
  refine (gb_t i3).trans ?_
  refine (gb_t i4).trans ?_
  show some (o 0 1 + 1 - 1, up2 (up2 (up2 (up2 (up2 (up2 o 0 0 0) 1 (3 * o 0 1).toNatClampNeg p1) 1 (3 * o 0 1 + 1).toNatClampNeg p2) 1 (3 * o 0 1 + 2).toNatClampNeg p3) 2 (o 0 1).toNatClampNeg p4) 0 1 (o 0 1 + 1)) = _
  rw [h3, nIp1, nIs1, nI3, nIp1, nIp2, cl_nI (by omega), cl_nI (by omega), cl_nI (by omega), cl_nI (by omega)]
theorem op_object {gGo gFo gPk : St} {qPk : Int64} {gSk gAi gSh gJo o : St} (h : INV gGo gFo gPk qPk gSk gAi gSh gJo o) (p1 p2 p3 p4 : Int32) : AGR [(xISE, 1), (xIAE, 2)] (f_Cc_object gGo gFo gPk qPk gSk gAi gSh gJo p1 p2 p3 p4) (f_Mo_object o p1 p2 p3 p4) o (fun x o' => INV x gFo gPk qPk gSk gAi gSh gJo o') := by
  obtain ⟨⟨n, h1, h2, h3, h4, h5, h6⟩, hF, hP, hS, hA, hH, hJ⟩ := h
  unfold f_Cc_object f_Mo_object
  by_cases hn : n = 6
  · subst hn
    have hc : f_Go_add gGo p1 p2 p3 p4 = some (.inr xISE) := by
      unfold f_Go_add
      rw [h2]
      rfl
    obtain ⟨b, hb⟩ := object_1 o p1 p2 p3 p4
    rw [hc, h3, if_pos (by decide), hb]
    exact Or.inl ⟨xISE, 1, b, by simp, rfl, rfl⟩
  · have hlt : nI n < 6 := nI_lt (b := 6) (by omega) (by decide)
    have hr : f_Cc_requireRoom (gGo 0 5) 6 = some (.inl ()) := rRoom_ok (by rw [h2]; exact hlt)
    rw [h3, if_neg (Int32.not_le.mpr hlt)]
    unfold f_Mo_object_J15 f_Mo_object_J63
    by_cases v1 : ¬ p1 < 1 ∧ p1 ≤ 200
    · by_cases v2 : ¬ p2 < 1 ∧ p2 ≤ 200
      · by_cases v3 : ¬ p3 < 1 ∧ p3 ≤ 200
        · by_cases v4 : ¬ p4 < 1 ∧ p4 ≤ 100000
          · rw [go_add_ok (by omega) h2 v1 v2 v3 v4, wi_ok v1.1 v1.2, wi_ok v2.1 v2.2, wi_ok v3.1 v3.2, wi_ok v4.1 v4.2]
            refine Or.inr ⟨_, _, _, rfl, mo_object_ok (by omega) h3, rfl, ⟨n + 1, by omega, rfl, rfl, ?_, ?_, ?_⟩, hF, ?_, hS, hA, hH, hJ⟩
            · obtain ⟨a, ha1, ha2, rfl⟩ := i_range (a := 1) (b := 200) (by decide) v1.1 v1.2 (by decide)
              obtain ⟨b, hb1, hb2, rfl⟩ := i_range (a := 1) (b := 200) (by decide) v2.1 v2.2 (by decide)
              obtain ⟨d, hd1, hd2, rfl⟩ := i_range (a := 1) (b := 200) (by decide) v3.1 v3.2 (by decide)
              intro j hj
              by_cases hj0 : j = 3 * n
              · exact ⟨a, ha1, ha2, by subst hj0; simp [up2_at], by subst hj0; simp [up2_at]⟩
              · by_cases hj1 : j = 3 * n + 1
                · exact ⟨b, hb1, hb2, by subst hj1; simp [up2_at], by subst hj1; simp [up2_at]⟩
                · by_cases hj2 : j = 3 * n + 2
                  · exact ⟨d, hd1, hd2, by subst hj2; simp [up2_at], by subst hj2; simp [up2_at]⟩
                  · obtain ⟨v, q1, q2, q3, q4⟩ := h4 j (by omega)
                    exact ⟨v, q1, q2, by simp [up2_at, hj0, hj1, hj2]; exact q3, by simp [up2_at, hj0, hj1, hj2]; exact q4⟩
            · obtain ⟨a, ha1, ha2, rfl⟩ := i_range (a := 1) (b := 100000) (by decide) v4.1 v4.2 (by decide)
              intro j hj
              by_cases hj0 : j = n
              · exact ⟨a, ha1, ha2, by subst hj0; simp [up2_at], by subst hj0; simp [up2_at]⟩
              · obtain ⟨v, q1, q2, q3, q4⟩ := h5 j (by omega)
                exact ⟨v, q1, q2, by simp [up2_at, hj0]; exact q3, by simp [up2_at, hj0]; exact q4⟩
            · exact h6
            · rcases hP with hP | ⟨e1, e2, e3, e4, e5, e6, gp, n', e7, e8, e9, e10, e11, e12⟩
              · exact Or.inl hP
              · have hnn : n' = n := by
                  have := e9.symm.trans h2
                  exact (nI_eq (by omega) (by omega)).mp this
                subst hnn
                refine Or.inr ⟨e1, e2, e3, e4, e5, e6, gp, n' + 1, e7, e8, rfl, by omega, fun j hj => ⟨(e11 j hj).1, ?_⟩, fun j hj => ?_⟩
                · rcases (e11 j hj).2 with q | ⟨w, q1, q2, q3⟩
                  · exact Or.inl q
                  · exact Or.inr ⟨w, q1, by omega, q3⟩
                · refine (e12 j hj).trans ?_
                  by_cases hw : o 9 j = -1
                  · exact (if_pos hw).trans (if_pos hw).symm
                  · refine (if_neg hw).trans (Eq.trans ?_ (if_neg hw).symm)
                    refine congrArg nI (begs_congr fun z hz hwz => ?_)
                    rcases (e11 z (by omega)).2 with q | ⟨w, q1, q2, q3⟩
                    · exact absurd q hwz
                    · have hax := ax0_lt (o 9 z).toNatClampNeg
                      have hne : ∀ k, 3 * z + ax0 (o 9 z).toNatClampNeg = 3 * n' + k → False := fun k hk => by omega
                      have e0 : ¬ (3 * z + ax0 (o 9 z).toNatClampNeg = 3 * n') := fun hk => hne 0 hk
                      have e1' : ¬ (3 * z + ax0 (o 9 z).toNatClampNeg = 3 * n' + 1) := fun hk => hne 1 hk
                      have e2' : ¬ (3 * z + ax0 (o 9 z).toNatClampNeg = 3 * n' + 2) := fun hk => hne 2 hk
                      simp [up2_at, e0, e1', e2']
          · have hc : f_Go_add gGo p1 p2 p3 p4 = some (.inr xIAE) := by
              unfold f_Go_add
              rw [hr, rRange_ok v1.1 v1.2, rRange_ok v2.1 v2.2, rRange_ok v3.1 v3.2, rRange_no v4]
              rfl
            rw [hc, wi_ok v1.1 v1.2, wi_ok v2.1 v2.2, wi_ok v3.1 v3.2, wi_no v4]
            exact Or.inl ⟨xIAE, 2, 0, by simp, rfl, rfl⟩
        · have hc : f_Go_add gGo p1 p2 p3 p4 = some (.inr xIAE) := by
            unfold f_Go_add
            rw [hr, rRange_ok v1.1 v1.2, rRange_ok v2.1 v2.2, rRange_no v3]
            rfl
          rw [hc, wi_ok v1.1 v1.2, wi_ok v2.1 v2.2, wi_no v3]
          exact Or.inl ⟨xIAE, 2, 0, by simp, rfl, rfl⟩
      · have hc : f_Go_add gGo p1 p2 p3 p4 = some (.inr xIAE) := by
          unfold f_Go_add
          rw [hr, rRange_ok v1.1 v1.2, rRange_no v2]
          rfl
        rw [hc, wi_ok v1.1 v1.2, wi_no v2]
        exact Or.inl ⟨xIAE, 2, 0, by simp, rfl, rfl⟩
    · have hc : f_Go_add gGo p1 p2 p3 p4 = some (.inr xIAE) := by
        unfold f_Go_add
        rw [hr, rRange_no v1]
        rfl
      rw [hc, wi_no v1]
      exact Or.inl ⟨xIAE, 2, 0, by simp, rfl, rfl⟩
