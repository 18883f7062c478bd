theorem op_inside {gGo gFo gPk : St} {qPk : Int64} {gSk gAi gSh gJo o : St} (h : INV gGo gFo gPk qPk gSk gAi gSh gJo o) (p1 : Int32) : AGR0 [(xIOE, 1)] (f_Cc_inside gGo gFo gPk qPk gSk gAi gSh gJo p1) (f_Mo_inside o p1) o (fun o' => INV gGo gFo gPk qPk gSk gAi gSh gJo o') := by
  have hI := h
  obtain ⟨hG, hF, hP, hS, ⟨n, lg, h1, h2, h3, h4, h5, h6, h7, h8⟩, hH, hJ⟩ := h
  unfold f_Cc_inside f_Ai_afterHour f_Mo_inside f_Mo_inside_J17
  rw [h2, h3]
  by_cases hv : ¬ p1 < 0 ∧ p1 < nI n
  · obtain ⟨j, hj, rfl⟩ := ix_of (by omega) hv.1 hv.2
    rw [rIndex_ok hv.1 hv.2, if_neg hv.1, if_neg (Int32.not_le.mpr hv.2)]
    unfold f_Mo_inside_J18
    rw [goes_ok, xv2_s, if_neg (by decide), xc0_l, gb_t (inb_of (show j < 200 by omega) (by decide)), gb_t (inb_of (show j < 200 by omega) (by decide)), cl_nI (show j < 2 ^ 31 by omega)]
    refine Or.inr ⟨gAi 1 j, up2 o 0 0 0, rfl, ?_, rfl, hI⟩
    rw [(h8 j hj).1]
    rfl
  · rw [rIndex_no hv]
    refine Or.inl ⟨xIOE, 1, 0, List.mem_singleton.mpr rfl, rfl, ?_⟩
    by_cases h0 : p1 < 0
    · rw [if_pos h0]; rfl
    · rw [if_neg h0, if_pos (Int32.not_lt.mp (fun q => hv ⟨h0, q⟩))]; rfl
theorem op_drop {gGo gFo gPk : St} {qPk : Int64} {gSk gAi gSh gJo o : St} (h : INV gGo gFo gPk qPk gSk gAi gSh gJo o) (p1 : Int32) : AGR0 [(xIOE, 1)] (f_Cc_drop gGo gFo gPk qPk gSk gAi gSh gJo p1) (f_Mo_drop o p1) o (fun o' => INV gGo gFo gPk qPk gSk gAi gSh gJo o') := by
  have hI := h
  obtain ⟨hG, hF, hP, hS, hA, hH, ⟨n, h1, h2, h3, h8⟩⟩ := h
  unfold f_Cc_drop f_Jo_dropOf f_Mo_drop f_Mo_drop_J17
  rw [h2, h3]
  by_cases hv : ¬ p1 < 0 ∧ p1 < nI n
  · obtain ⟨j, hj, rfl⟩ := ix_of (by omega) hv.1 hv.2
    rw [rIndex_ok hv.1 hv.2, if_neg hv.1, if_neg (Int32.not_le.mpr hv.2)]
    unfold f_Mo_drop_J18
    rw [goes_ok, xv2_s, if_neg (by decide), xc0_l, gb_t (inb_of (show j < 50 by omega) (by decide)), gb_t (inb_of (show j < 50 by omega) (by decide)), cl_nI (show j < 2 ^ 31 by omega)]
    refine Or.inr ⟨gJo 1 j, up2 o 0 0 0, rfl, ?_, rfl, hI⟩
    rw [h8 j hj]
    rfl
  · rw [rIndex_no hv]
    refine Or.inl ⟨xIOE, 1, 0, List.mem_singleton.mpr rfl, rfl, ?_⟩
    by_cases h0 : p1 < 0
    · rw [if_pos h0]; rfl
    · rw [if_neg h0, if_pos (Int32.not_lt.mp (fun q => hv ⟨h0, q⟩))]; rfl
theorem op_limit {gGo gFo gPk : St} {qPk : Int64} {gSk gAi gSh gJo o : St} (h : INV gGo gFo gPk qPk gSk gAi gSh gJo o) (p1 p2 : Int32) : AGRV [(xIAE, 1)] (f_Cc_limit gGo gFo gPk qPk gSk gAi gSh gJo p1 p2) (f_Mo_limit o p1 p2) o (fun x o' => INV gGo gFo gPk qPk gSk gAi x gJo o') := by
  unfold f_Cc_limit f_Sh_allow f_Mo_limit
  by_cases hv : ¬ p1 < 1 ∧ p1 ≤ 10000
  · rw [rRange_ok hv.1 hv.2, wi_ok hv.1 hv.2]
    by_cases hw : ¬ p2 < 1 ∧ p2 ≤ 10000
    · rw [rRange_ok hw.1 hw.2, wi_ok hw.1 hw.2]
      obtain ⟨hG, hF, hP, hS, hA, ⟨h1, h2, h3⟩, hJ⟩ := h
      obtain ⟨a, ha1, ha2, rfl⟩ := i_range (a := 1) (b := 10000) (by decide) hv.1 hv.2 (by decide)
      obtain ⟨b, hb1, hb2, rfl⟩ := i_range (a := 1) (b := 10000) (by decide) hw.1 hw.2 (by decide)
      exact Or.inr ⟨up2 (up2 gSh 0 0 (nI a)) 0 1 (nI b), up2 (up2 (up2 (up2 o 0 0 0) 0 24 (nI a)) 0 25 (nI b)) 0 26 1, rfl, rfl, rfl, hG, hF, hP, hS, hA, ⟨h1, h2, Or.inr ⟨rfl, rfl, rfl, a, b, ha1, ha2, hb1, hb2, rfl, rfl⟩⟩, hJ⟩
    · rw [rRange_no hw, wi_no hw]
      exact Or.inl ⟨xIAE, 1, List.mem_singleton.mpr rfl, rfl, rfl⟩
  · rw [rRange_no hv, wi_no hv]
    exact Or.inl ⟨xIAE, 1, List.mem_singleton.mpr rfl, rfl, rfl⟩
theorem sh_no {gGo gFo gPk : St} {qPk : Int64} {gSk gAi gSh gJo o : St} (h : INV gGo gFo gPk qPk gSk gAi gSh gJo o) : AGR [(xIAE, 1)] (xc2 (f_Sh_add_J46 gSh) (fun r_1 gSh_2 => gb (isb r_1) (some (.inl (r_1, gSh_2))))) (f_Mo_shock_J75 (up2 o 0 0 0)) o (fun x o' => INV gGo gFo gPk qPk gSk gAi x gJo o') := by
  obtain ⟨hG, hF, hP, hS, hA, ⟨h1, h2, h3⟩, hJ⟩ := h
  refine Or.inr ⟨0, up2 gSh 0 2 (gSh 0 2 + 1), up2 (up2 (up2 o 0 0 0) 0 27 (o 0 27 + 1)) 0 28 (o 0 28), rfl, rfl, rfl, hG, hF, hP, hS, hA, ⟨?_, h2, h3⟩, hJ⟩
  show gSh 0 2 + 1 = o 0 27 + 1
  rw [h1]
theorem sh_yes {gGo gFo gPk : St} {qPk : Int64} {gSk gAi gSh gJo o : St} (h : INV gGo gFo gPk qPk gSk gAi gSh gJo o) : AGR [(xIAE, 1)] (xc2 (f_Sh_add_J42 gSh) (fun r_1 gSh_2 => gb (isb r_1) (some (.inl (r_1, gSh_2))))) (f_Mo_shock_J71 (up2 o 0 0 0)) o (fun x o' => INV gGo gFo gPk qPk gSk gAi x gJo o') := by
  obtain ⟨hG, hF, hP, hS, hA, ⟨h1, h2, h3⟩, hJ⟩ := h
  refine Or.inr ⟨1, up2 (up2 gSh 0 2 (gSh 0 2 + 1)) 0 3 (gSh 0 3 + 1), up2 (up2 (up2 o 0 0 0) 0 27 (o 0 27 + 1)) 0 28 (o 0 28 + 1), rfl, rfl, rfl, hG, hF, hP, hS, hA, ⟨?_, ?_, h3⟩, hJ⟩
  · show gSh 0 2 + 1 = o 0 27 + 1
    rw [h1]
  · show gSh 0 3 + 1 = o 0 28 + 1
    rw [h2]
theorem sh_c {g : St} {p1 p2 : Int32} (a : ¬ p1 < 0 ∧ p1 ≤ 10000) (b : ¬ p2 < 0 ∧ p2 ≤ 10000) : f_Sh_add g p1 p2 = if g 0 0 < p1 then (f_Sh_add_J42 g) else (if p1 ≤ (g 0 0) / 2 then (f_Sh_add_J46 g) else (if p2 ≤ g 0 1 then (f_Sh_add_J46 g) else (f_Sh_add_J42 g))) := by
  unfold f_Sh_add
  rw [rRange_ok a.1 a.2, rRange_ok b.1 b.2, xc0_l, xc0_l]
theorem sh_m {o : St} {p1 p2 : Int32} (a : ¬ p1 < 0 ∧ p1 ≤ 10000) (b : ¬ p2 < 0 ∧ p2 ≤ 10000) : f_Mo_shock o p1 p2 = if o 0 26 = 0 then (f_Mo_shock_J75 (up2 o 0 0 0)) else (if o 0 24 < p1 then (f_Mo_shock_J71 (up2 o 0 0 0)) else (if p1 ≤ (o 0 24) / 2 then (f_Mo_shock_J75 (up2 o 0 0 0)) else (if p2 ≤ o 0 25 then (f_Mo_shock_J75 (up2 o 0 0 0)) else (f_Mo_shock_J71 (up2 o 0 0 0))))) := by
  unfold f_Mo_shock
  rw [wi_ok a.1 a.2, wi_ok b.1 b.2]
  rfl
theorem op_shock {gGo gFo gPk : St} {qPk : Int64} {gSk gAi gSh gJo o : St} (h : INV gGo gFo gPk qPk gSk gAi gSh gJo o) (p1 p2 : Int32) : AGR [(xIAE, 1)] (f_Cc_shock gGo gFo gPk qPk gSk gAi gSh gJo p1 p2) (f_Mo_shock o p1 p2) o (fun x o' => INV gGo gFo gPk qPk gSk gAi x gJo o') := by
  unfold f_Cc_shock
  by_cases hv : ¬ p1 < 0 ∧ p1 ≤ 10000
  · by_cases hw : ¬ p2 < 0 ∧ p2 ≤ 10000
    · rw [sh_c hv hw, sh_m hv hw]
      have no := sh_no h
      have yes := sh_yes h
      obtain ⟨-, -, -, -, -, ⟨-, -, h3⟩, -⟩ := h
      rcases h3 with ⟨e1, e2, e3⟩ | ⟨e1, e2, e3, -⟩
      · rw [if_pos e1]
        have c0 : ¬ gSh 0 0 < p1 := by rw [e2]; exact Int32.not_lt.mpr hv.2
        have c3 : p2 ≤ gSh 0 1 := by rw [e3]; exact hw.2
        rw [if_neg c0, if_pos c3]
        by_cases c1 : p1 ≤ gSh 0 0 / 2
        · rw [if_pos c1]; exact no
        · rw [if_neg c1]; exact no
      · have ne : ¬ o 0 26 = 0 := by rw [e1]; decide
        rw [if_neg ne, e2, e3]
        by_cases c1 : o 0 24 < p1
        · simp only [if_pos c1]; exact yes
        · simp only [if_neg c1]
          by_cases c2 : p1 ≤ (o 0 24) / 2
          · simp only [if_pos c2]; exact no
          · simp only [if_neg c2]
            by_cases c3 : p2 ≤ o 0 25
            · simp only [if_pos c3]; exact no
            · simp only [if_neg c3]; exact yes
    · unfold f_Sh_add f_Mo_shock
      rw [rRange_ok hv.1 hv.2, wi_ok hv.1 hv.2, rRange_no hw, wi_no hw]
      exact Or.inl ⟨xIAE, 1, 0, List.mem_singleton.mpr rfl, rfl, rfl⟩
  · unfold f_Sh_add f_Mo_shock
    rw [rRange_no hv, wi_no hv]
    exact Or.inl ⟨xIAE, 1, 0, List.mem_singleton.mpr rfl, rfl, rfl⟩
theorem RP_pk {g k : St} {opk ogap ol ow oh : Int32} {oways : Nat → Int32} (h : RP g k opk ogap ol ow oh oways) : (k 0 4 = 0 ∧ opk = 0) ∨ (k 0 4 = 1 ∧ opk = 1 ∧ k 1 0 = ol ∧ k 1 1 = ow ∧ k 1 2 = oh) := by
  rcases h with h | ⟨h1, h2, h3, h4, h5, -⟩
  · exact Or.inl h
  · exact Or.inr ⟨h1, h2, h3, h4, h5⟩
theorem op_size {gGo gFo gPk : St} {qPk : Int64} {gSk gAi gSh gJo o : St} (h : INV gGo gFo gPk qPk gSk gAi gSh gJo o) (p1 : Int32) : AGR0 [(xIOE, 1), (xISE, 2)] (f_Cc_size gGo gFo gPk qPk gSk gAi gSh gJo p1) (f_Mo_size o p1) o (fun o' => INV gGo gFo gPk qPk gSk gAi gSh gJo o') := by
  have hI := h
  obtain ⟨-, -, hP, -⟩ := h
  unfold f_Cc_size f_Pk_sizeAlong f_Mo_size
  by_cases hv : ¬ p1 < 0 ∧ p1 < 3
  · have hv2 : p1 ≤ 2 := by rw [i_le]; have := i_lt.mp hv.2; have e3 : (3 : Int32).toInt = 3 := rfl; have e2 : (2 : Int32).toInt = 2 := rfl; omega
    rw [rIndex_ok hv.1 hv.2, wi_ok hv.1 hv2]
    unfold f_Pk_requirePacked
    rcases RP_pk hP with ⟨e1, e2⟩ | ⟨e1, e2, e3, e4, e5⟩
    · rw [if_pos e1, e2]
      exact Or.inl ⟨xISE, 2, 0, by simp, rfl, rfl⟩
    · rw [if_neg (by rw [e1]; decide), e2]
      obtain ⟨j, hj, rfl⟩ := ix_of (n := 3) (by decide) hv.1 hv.2
      rcases (show j = 0 ∨ j = 1 ∨ j = 2 by omega) with rfl | rfl | rfl
      · exact Or.inr ⟨gPk 1 0, up2 o 0 0 0, rfl, by rw [e3]; rfl, rfl, hI⟩
      · exact Or.inr ⟨gPk 1 1, up2 o 0 0 0, rfl, by rw [e4]; rfl, rfl, hI⟩
      · exact Or.inr ⟨gPk 1 2, up2 o 0 0 0, rfl, by rw [e5]; rfl, rfl, hI⟩
  · have hv2 : ¬ (¬ p1 < 0 ∧ p1 ≤ 2) := fun q => hv ⟨q.1, by rw [i_lt]; have := i_le.mp q.2; have e3 : (3 : Int32).toInt = 3 := rfl; have e2 : (2 : Int32).toInt = 2 := rfl; omega⟩
    rw [rIndex_no hv, wi_no hv2]
    exact Or.inl ⟨xIOE, 1, 0, by simp, rfl, rfl⟩
theorem op_free {gGo gFo gPk : St} {qPk : Int64} {gSk gAi gSh gJo o : St} (h : INV gGo gFo gPk qPk gSk gAi gSh gJo o) (p1 : Int32) : AGR [(xIOE, 1)] (f_Cc_free gGo gFo gPk qPk gSk gAi gSh gJo p1) (f_Mo_free o p1) o (fun x o' => INV gGo gFo gPk qPk x gAi gSh gJo o') := by
  obtain ⟨hG, hF, hP, ⟨n, h1, h2, h3, h4, h5, h6⟩, hA, hH, hJ⟩ := h
  unfold f_Cc_free f_Sk_release f_Mo_free f_Mo_free_J17
  rw [h2, h3]
  by_cases hv : ¬ p1 < 0 ∧ p1 < nI n
  · obtain ⟨j, hj, rfl⟩ := ix_of (by omega) hv.1 hv.2
    rw [rIndex_ok hv.1 hv.2, if_neg hv.1, if_neg (Int32.not_le.mpr hv.2)]
    unfold f_Mo_free_J18
    have e := h5 j (by omega)
    have hb : isb (o 13 j) = true := decide_eq_true e.2
    have hin : inb (nI j) 10 = true := inb_of (show j < 10 by omega) (by decide)
    rw [goes_ok, xv2_s, if_neg (by decide), xc0_l]
    simp only [letb, gb_t hin, cl_nI (show j < 2 ^ 31 by omega), e.1]
    refine Or.inr ⟨o 13 j, up2 gSk 4 j 0, up2 (up2 o 0 0 0) 13 j 0, ?_, ?_, rfl, hG, hF, hP, ⟨n, h1, h2, h3, h4, ?_, ?_⟩, hA, hH, hJ⟩
    · show xc2 (gb (isb (o 13 j)) (some (Sum.inl (o 13 j, up2 gSk 4 j 0)))) _ = _
      rw [gb_t hb, xc2_l, gb_t hb]
    · show gb (isb (o 13 j)) (some (o 13 j, up2 (up2 o 0 0 0) 13 j 0)) = _
      rw [gb_t hb]
    · intro i hi
      rw [up2_at, up2_at]
      by_cases hij : i = j
      · simp [hij]
      · simp [hij]
        exact h5 i hi
    · intro i hn hi
      rw [up2_at]
      have hij : ¬ i = j := by omega
      simp [hij]
      exact h6 i hn hi
  · rw [rIndex_no hv]
    refine Or.inl ⟨xIOE, 1, 0, List.mem_singleton.mpr rfl, rfl, ?_⟩
    by_cases h0 : p1 < 0
    · rw [if_pos h0]; rfl
    · rw [if_neg h0, if_pos (Int32.not_lt.mp (fun q => hv ⟨h0, q⟩))]; rfl
