theorem wi_cases (a b d : Int32) : f_Mo_within a b d = some 0 ∨ f_Mo_within a b d = some 1 := by
  by_cases h : ¬ a < b ∧ a ≤ d
  · exact Or.inr (wi_ok h.1 h.2)
  · exact Or.inl (wi_no h)
theorem nI3 (n : Nat) : (3 : Int32) * nI n = nI (3 * n) := pk_mul 3 n
theorem nI3' (n : Nat) : nI n * (3 : Int32) = nI (3 * n) := by rw [Nat.mul_comm]; exact pk_mul n 3
theorem nIp1 (n : Nat) : nI n + (1 : Int32) = nI (n + 1) := nI_1 n
theorem nIp2 (n : Nat) : nI n + (2 : Int32) = nI (n + 2) := nI_add n 2
theorem nIs1 (n : Nat) : nI (n + 1) - (1 : Int32) = nI n := nI_pred n
theorem crate_1 (o : St) (p1 p2 p3 : Int32) : ∃ b, f_Mo_crate_J15 o p1 p2 p3 0 = some (b, up2 o 0 0 1) := by
  unfold f_Mo_crate_J15
  rcases wi_cases p1 1 2000 with e1 | e1 <;> rcases wi_cases p2 1 2000 with e2 | e2 <;> rcases wi_cases p3 1 2000 with e3 | e3 <;> rw [e1, e2, e3] <;> exact ⟨0, rfl⟩
theorem op_crate {gGo gFo gPk : St} {qPk : Int64} {gSk gAi gSh gJo o : St} (h : INV gGo gFo gPk qPk gSk gAi gSh gJo o) (p1 p2 p3 : Int32) : AGR [(xISE, 1), (xIAE, 2)] (f_Cc_crate gGo gFo gPk qPk gSk gAi gSh gJo p1 p2 p3) (f_Mo_crate o p1 p2 p3) o (fun x o' => INV gGo gFo gPk qPk x gAi gSh gJo o') := by
  obtain ⟨hG, hF, hP, ⟨n, h1, h2, h3, h4, h5, h6⟩, hA, hH, hJ⟩ := h
  unfold f_Cc_crate f_Mo_crate
  by_cases hn : n = 10
  · subst hn
    have hc : f_Sk_add gSk p1 p2 p3 = some (.inr xISE) := by
      unfold f_Sk_add
      rw [h2]
      rfl
    obtain ⟨b, hb⟩ := crate_1 o p1 p2 p3
    rw [hc, h3, if_pos (by decide), hb]
    exact Or.inl ⟨xISE, 1, b, by simp, rfl, rfl⟩
  · have hlt : nI n < 10 := nI_lt (b := 10) (by omega) (by decide)
    rw [h3, if_neg (Int32.not_le.mpr hlt)]
    unfold f_Mo_crate_J15 f_Mo_crate_J52
    by_cases v1 : ¬ p1 < 1 ∧ p1 ≤ 2000
    · by_cases v2 : ¬ p2 < 1 ∧ p2 ≤ 2000
      · by_cases v3 : ¬ p3 < 1 ∧ p3 ≤ 2000
        · have hin : inb (gSk 0 4) 10 = true := by rw [h2]; exact inb_of (show n < 10 by omega) (by decide)
          have hc : f_Sk_add gSk p1 p2 p3 = some (.inl (nI n, up2 (up2 (up2 (up2 gSk 1 n p1) 2 n p2) 3 n p3) 0 4 (nI (n + 1)))) := by
            unfold f_Sk_add
            rw [rRoom_ok (by rw [h2]; exact hlt), rRange_ok v1.1 v1.2, rRange_ok v2.1 v2.2, rRange_ok v3.1 v3.2]
            refine (gb_t hin).trans ?_
            refine (gb_t hin).trans ?_
            refine (gb_t hin).trans ?_
            have e : (gSk 0 4).toNatClampNeg = n := by rw [h2]; exact cl_nI (by omega)
            show some (Sum.inl (gSk 0 4 + 1 - 1, up2 (up2 (up2 (up2 gSk 1 (gSk 0 4).toNatClampNeg p1) 2 (gSk 0 4).toNatClampNeg p2) 3 (gSk 0 4).toNatClampNeg p3) 0 4 (gSk 0 4 + 1))) = _
            rw [e, h2, nIp1, nIs1]
          have hm : f_Mo_crate_J53 o p1 p2 p3 1 1 = some (nI n, up2 (up2 (up2 (up2 (up2 o 0 0 0) 12 (3 * n) p1) 12 (3 * n + 1) p2) 12 (3 * n + 2) p3) 0 18 (nI (n + 1))) := by
            unfold f_Mo_crate_J53
            rw [goes_ok, xv2_s, if_neg (by decide)]
            have i1 : inb (3 * o 0 18) 30 = true := by rw [h3, nI3]; exact inb_of (by omega) (by decide)
            have i2 : inb (3 * o 0 18 + 1) 30 = true := by rw [h3, nI3, nIp1]; exact inb_of (by omega) (by decide)
            have i3 : inb (3 * o 0 18 + 2) 30 = true := by rw [h3, nI3, nIp2]; exact inb_of (by omega) (by decide)
            refine (gb_t i1).trans ?_
            refine (gb_t i2).trans ?_
            refine (gb_t i3).trans ?_
            show some (o 0 18 + 1 - 1, up2 (up2 (up2 (up2 (up2 o 0 0 0) 12 (3 * o 0 18).toNatClampNeg p1) 12 (3 * o 0 18 + 1).toNatClampNeg p2) 12 (3 * o 0 18 + 2).toNatClampNeg p3) 0 18 (o 0 18 + 1)) = _
            rw [h3, nIp1, nIs1, nI3, nIp1, nIp2, cl_nI (by omega), cl_nI (by omega), cl_nI (by omega)]
          rw [hc, wi_ok v1.1 v1.2, wi_ok v2.1 v2.2, wi_ok v3.1 v3.2]
          refine Or.inr ⟨_, _, _, rfl, hm, rfl, hG, hF, hP, ⟨n + 1, by omega, rfl, rfl, ?_, ?_, ?_⟩, hA, hH, hJ⟩
          · obtain ⟨a, ha1, ha2, rfl⟩ := i_range (a := 1) (b := 2000) (by decide) v1.1 v1.2 (by decide)
            obtain ⟨b, hb1, hb2, rfl⟩ := i_range (a := 1) (b := 2000) (by decide) v2.1 v2.2 (by decide)
            obtain ⟨d, hd1, hd2, rfl⟩ := i_range (a := 1) (b := 2000) (by decide) v3.1 v3.2 (by decide)
            intro j hj
            by_cases hjn : j = n
            · subst hjn
              refine ⟨⟨a, ha1, ha2, ?_, ?_⟩, ⟨b, hb1, hb2, ?_, ?_⟩, ⟨d, hd1, hd2, ?_, ?_⟩⟩ <;> simp [up2_at]
            · obtain ⟨⟨a', q1, q2, q3, q4⟩, ⟨b', r1, r2, r3, r4⟩, ⟨d', s1, s2, s3, s4⟩⟩ := h4 j (by omega)
              refine ⟨⟨a', q1, q2, ?_, ?_⟩, ⟨b', r1, r2, ?_, ?_⟩, ⟨d', s1, s2, ?_, ?_⟩⟩
              · simp [up2_at, hjn]; exact q3
              · simp only [up2_at]; rw [if_neg (by omega), if_neg (by omega), if_neg (by omega), if_neg (by omega), if_neg (by omega)]; exact q4
              · simp [up2_at, hjn]; exact r3
              · simp only [up2_at]; rw [if_neg (by omega), if_neg (by omega), if_neg (by omega), if_neg (by omega), if_neg (by omega)]; exact r4
              · simp [up2_at, hjn]; exact s3
              · simp only [up2_at]; rw [if_neg (by omega), if_neg (by omega), if_neg (by omega), if_neg (by omega), if_neg (by omega)]; exact s4
          · exact h5
          · intro j hj1 hj2
            exact h6 j (by omega) hj2
        · have hc : f_Sk_add gSk p1 p2 p3 = some (.inr xIAE) := by
            unfold f_Sk_add
            rw [rRoom_ok (by rw [h2]; exact hlt), rRange_ok v1.1 v1.2, rRange_ok v2.1 v2.2, rRange_no v3]
            rfl
          rw [hc, wi_ok v1.1 v1.2, wi_ok v2.1 v2.2, wi_no v3]
          exact Or.inl ⟨xIAE, 2, 0, by simp, rfl, rfl⟩
      · have hc : f_Sk_add gSk p1 p2 p3 = some (.inr xIAE) := by
          unfold f_Sk_add
          rw [rRoom_ok (by rw [h2]; exact hlt), rRange_ok v1.1 v1.2, rRange_no v2]
          rfl
        rw [hc, wi_ok v1.1 v1.2, wi_no v2]
        exact Or.inl ⟨xIAE, 2, 0, by simp, rfl, rfl⟩
    · have hc : f_Sk_add gSk p1 p2 p3 = some (.inr xIAE) := by
        unfold f_Sk_add
        rw [rRoom_ok (by rw [h2]; exact hlt), rRange_no v1]
        rfl
      rw [hc, wi_no v1]
      exact Or.inl ⟨xIAE, 2, 0, by simp, rfl, rfl⟩
