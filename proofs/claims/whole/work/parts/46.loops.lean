def tcn (f : Nat → Int32) : Nat → Int32
  | 0 => 0
  | k + 1 => if f k = 0 then tcn f k else tcn f k + 1
theorem tcn_s (f : Nat → Int32) (k : Nat) : tcn f (k + 1) = if f k = 0 then tcn f k else tcn f k + 1 := rfl
theorem tcn_congr {f f' : Nat → Int32} : ∀ {n : Nat}, (∀ j, j < n → f j = f' j) → tcn f n = tcn f' n
  | 0, _ => rfl
  | n + 1, h => by
    unfold tcn
    rw [tcn_congr (n := n) (fun j hj => h j (by omega)), h n (by omega)]
theorem cnt_c {g : St} {n : Nat} (hn : n ≤ 10) (h : g 0 4 = nI n) : ∀ (m i : Nat), i ≤ n → n < i + m → it2 (f_Sk_takenCount_L4 g) m (tcn (g 4) i) (nI i) = some (tcn (g 4) n) := by
  intro m
  induction m with
  | zero => intro i h1 h2; omega
  | succ m ih =>
    intro i h1 h2
    rw [it2_s, f_Sk_takenCount_L4]
    unfold f_Sk_takenCount_J24
    rw [h]
    by_cases hi : i = n
    · subst hi
      rw [if_pos (nI_le (Nat.le_refl i) (by omega))]
      rfl
    · rw [if_neg (nI_ge (by omega) (by omega)), gb_t (inb_of (show i < 10 by omega) (by decide))]
      simp only [letb, cl_nI (show i < 2 ^ 31 by omega), nIp1]
      have := ih (i + 1) (by omega) (by omega)
      rw [tcn_s] at this
      by_cases hz : g 4 i = 0
      · rw [if_pos hz] at this ⊢; exact this
      · rw [if_neg hz] at this ⊢; exact this
theorem cnt_m {o : St} {p1 : Int32} {n : Nat} (hn : n ≤ 10) (h : o 0 18 = nI n) : ∀ (m i : Nat), i ≤ n → n < i + m → it3 (f_Mo_count_L21 p1) m (tcn (o 13) i) (nI i) o = f_Mo_count_X52 p1 (tcn (o 13) n) (nI n) o := by
  intro m
  induction m with
  | zero => intro i h1 h2; omega
  | succ m ih =>
    intro i h1 h2
    rw [it3_s, f_Mo_count_L21]
    unfold f_Mo_count_J45
    rw [h]
    by_cases hi : i = n
    · subst hi
      rw [if_pos (nI_le (Nat.le_refl i) (by omega))]
    · rw [if_neg (nI_ge (by omega) (by omega)), gb_t (inb_of (show i < 10 by omega) (by decide))]
      simp only [letb, cl_nI (show i < 2 ^ 31 by omega), nIp1]
      have := ih (i + 1) (by omega) (by omega)
      rw [tcn_s] at this
      by_cases hz : o 13 i = 0
      · rw [if_pos hz] at this ⊢; exact this
      · rw [if_neg hz] at this ⊢; exact this
theorem op_count {gGo gFo gPk : St} {qPk : Int64} {gSk gAi gSh gJo o : St} (h : INV gGo gFo gPk qPk gSk gAi gSh gJo o) (p1 : Int32) : AGR0 [(xIOE, 1)] (f_Cc_count gGo gFo gPk qPk gSk gAi gSh gJo p1) (f_Mo_count o p1) o (fun o' => INV gGo gFo gPk qPk gSk gAi gSh gJo o') := by
  have hI := h
  obtain ⟨⟨ng, -, g2, g3, -⟩, -, -, ⟨n, h1, h2, h3, h4, h5, h6⟩, ⟨na, -, -, a2, a3, -⟩, ⟨s1, s2, -⟩, -⟩ := h
  by_cases hv : ¬ p1 < 0 ∧ p1 ≤ 5
  · unfold f_Mo_count
    rw [wi_ok hv.1 hv.2, xv1_s, goes_ok, xv2_s, if_neg (by decide)]
    have hm := cnt_m (o := up2 o 0 0 0) (p1 := p1) h1 h3 FU 0 (Nat.zero_le _) (by unfold FU; omega)
    have hm' : it3 (f_Mo_count_L21 p1) FU 0 0 (up2 o 0 0 0) = f_Mo_count_X52 p1 (tcn (o 13) n) (nI n) (up2 o 0 0 0) := hm
    rw [hm']
    have hc := cnt_c h1 h2 FU 0 (Nat.zero_le _) (by unfold FU; omega)
    have hc' : f_Sk_takenCount gSk = some (tcn (gSk 4) n) := hc
    have e : tcn (gSk 4) n = tcn (o 13) n := tcn_congr fun j hj => (h5 j (by omega)).1
    rw [e] at hc'
    obtain ⟨j, hj0, hj, rfl⟩ := i_range (a := 0) (b := 5) (by decide) hv.1 hv.2 (by decide)
    unfold f_Cc_count
    rw [hc']
    rcases (show j = 0 ∨ j = 1 ∨ j = 2 ∨ j = 3 ∨ j = 4 ∨ j = 5 by omega) with rfl | rfl | rfl | rfl | rfl | rfl
    · exact Or.inr ⟨gGo 0 5, up2 o 0 0 0, rfl, by rw [g2, ← g3]; rfl, rfl, hI⟩
    · exact Or.inr ⟨gSk 0 4, up2 o 0 0 0, rfl, by rw [h2, ← h3]; rfl, rfl, hI⟩
    · exact Or.inr ⟨tcn (o 13) n, up2 o 0 0 0, rfl, rfl, rfl, hI⟩
    · exact Or.inr ⟨gAi 0 1, up2 o 0 0 0, rfl, by rw [a2, ← a3]; rfl, rfl, hI⟩
    · exact Or.inr ⟨gSh 0 2, up2 o 0 0 0, rfl, by rw [s1]; rfl, rfl, hI⟩
    · exact Or.inr ⟨gSh 0 3, up2 o 0 0 0, rfl, by rw [s2]; rfl, rfl, hI⟩
  · unfold f_Mo_count f_Cc_count
    rw [wi_no hv]
    have e : ∀ k : Nat, k ≤ 5 → ¬ p1 = nI k := by
      intro k hk he
      refine hv ⟨by rw [he]; exact nI_pos (by omega), by rw [he]; exact nI_le (b := 5) hk (by decide)⟩
    rw [if_neg (show ¬ p1 = 0 from e 0 (by omega)), if_neg (show ¬ p1 = 1 from e 1 (by omega)), if_neg (show ¬ p1 = 2 from e 2 (by omega)), if_neg (show ¬ p1 = 3 from e 3 (by omega)), if_neg (show ¬ p1 = 4 from e 4 (by omega)), if_neg (show ¬ p1 = 5 from e 5 (by omega))]
    exact Or.inl ⟨xIOE, 1, 0, by simp, rfl, rfl⟩
-- route
theorem route_l {n : Nat} (hn : n ≤ 50) : ∀ (m i : Nat), i ≤ n → n < i + m → ∀ (s sum : Int32) (gJ gM : St), (∀ j, j < i → gJ 1 j = gM 15 j) →
    ∃ (r : Int32) (gJ' gM' : St), it4 (f_Jo_plan_L22 (nI n)) m s sum (nI i) gJ = some (.inl (r, gJ')) ∧ it4 (f_Mo_route_L44 (nI n)) m s sum (nI i) gM = some (r, gM') ∧ (∀ j, j < n → gJ' 1 j = gM' 15 j) ∧ gJ' 0 1 = nI n ∧ gM' 0 29 = nI n ∧ (∀ k, k ≠ 15 → k ≠ 0 → gM' k = gM k) ∧ (∀ f, f ≠ 29 → gM' 0 f = gM 0 f) := by
  intro m
  induction m with
  | zero => intro i h1 h2; omega
  | succ m ih =>
    intro i h1 h2 s sum gJ gM hj
    rw [it4_s, it4_s, f_Jo_plan_L22, f_Mo_route_L44]
    by_cases hi : i = n
    · subst hi
      rw [if_pos (nI_le (Nat.le_refl i) (by omega)), if_pos (nI_le (Nat.le_refl i) (by omega))]
      exact ⟨sum, up2 gJ 0 1 (nI i), up2 gM 0 29 (nI i), rfl, rfl, hj, rfl, rfl, fun k h15 h0 => up2_n h0, fun f hf => by rw [up2_at, if_neg (by omega)]⟩
    · rw [if_neg (nI_ge (by omega) (by omega)), if_neg (nI_ge (by omega) (by omega))]
      have hin : inb (nI i) 50 = true := inb_of (show i < 50 by omega) (by decide)
      simp only [letb, gb_t hin, cl_nI (show i < 2 ^ 31 by omega), nIp1]
      rw [Int32.mul_comm 75 s]
      generalize hx : (s * 75 + 74 - (s * 75 + 74) / 65537 * 65537) = x
      generalize hy : 10 + (x - x / 91 * 91) = y
      have e1 : up2 gJ 1 i y 1 i = y := by rw [up2_at]; simp
      have e2 : up2 gM 15 i y 15 i = y := by rw [up2_at]; simp
      rw [e1, e2]
      obtain ⟨r, gJ', gM', q1, q2, q3, q4, q5, q6, q7⟩ := ih (i + 1) (by omega) (by omega) x (sum + y) (up2 gJ 1 i y) (up2 gM 15 i y) (fun j hj' => by
        rw [up2_at, up2_at]
        by_cases hji : j = i
        · simp [hji]
        · simp [hji]
          exact hj j (by omega))
      exact ⟨r, gJ', gM', q1, q2, q3, q4, q5, fun k h15 h0 => (q6 k h15 h0).trans (up2_n h15), fun f hf => (q7 f hf).trans (by rw [up2_at, if_neg (by omega)])⟩
theorem op_route {gGo gFo gPk : St} {qPk : Int64} {gSk gAi gSh gJo o : St} (h : INV gGo gFo gPk qPk gSk gAi gSh gJo o) (p1 p2 : Int32) : AGR [(xIAE, 1)] (f_Cc_route gGo gFo gPk qPk gSk gAi gSh gJo p1 p2) (f_Mo_route o p1 p2) o (fun x o' => INV gGo gFo gPk qPk gSk gAi gSh x o') := by
  unfold f_Cc_route f_Jo_plan f_Mo_route
  by_cases hv : ¬ p1 < 0 ∧ p1 ≤ 65536
  · rw [rRange_ok hv.1 hv.2, wi_ok hv.1 hv.2]
    by_cases hw : ¬ p2 < 1 ∧ p2 ≤ 50
    · rw [rRange_ok hw.1 hw.2, wi_ok hw.1 hw.2]
      obtain ⟨n, hn1, hn2, rfl⟩ := i_range (a := 1) (b := 50) (by decide) hw.1 hw.2 (by decide)
      obtain ⟨r, gJ', gM', q1, q2, q3, q4, q5, q6, q7⟩ := route_l hn2 FU 0 (Nat.zero_le _) (by unfold FU; omega) p1 0 gJo (up2 o 0 0 0) (fun j hj => absurd hj (Nat.not_lt_zero j))
      obtain ⟨hG, hF, hP, hS, hA, hH, hJ⟩ := h
      refine Or.inr ⟨r, gJ', gM', ?_, q2, q7 0 (by omega), ?_⟩
      · rw [xc0_l, xc0_l, show it4 (f_Jo_plan_L22 (nI n)) FU p1 0 0 gJo = some (.inl (r, gJ')) from q1]
        rfl
      · show INV gGo gFo gPk qPk gSk gAi gSh gJ' gM'
        unfold INV
        rw [q7 1 (by omega), q7 10 (by omega), q7 13 (by omega), q7 14 (by omega), q7 15 (by omega), q7 16 (by omega), q7 18 (by omega), q7 21 (by omega), q7 23 (by omega), q7 24 (by omega), q7 25 (by omega), q7 26 (by omega), q7 27 (by omega), q7 28 (by omega), q6 1 (by omega) (by omega), q6 2 (by omega) (by omega), q6 3 (by omega) (by omega), q6 4 (by omega) (by omega), q6 5 (by omega) (by omega), q6 6 (by omega) (by omega), q6 7 (by omega) (by omega), q6 8 (by omega) (by omega), q6 9 (by omega) (by omega), q6 12 (by omega) (by omega), q6 13 (by omega) (by omega), q6 14 (by omega) (by omega)]
        exact ⟨hG, hF, hP, hS, hA, hH, ⟨n, hn2, q4, q5, q3⟩⟩
    · rw [rRange_no hw, wi_no hw]
      exact Or.inl ⟨xIAE, 1, 0, by simp, rfl, rfl⟩
  · rw [rRange_no hv, wi_no hv]
    exact Or.inl ⟨xIAE, 1, 0, by simp, rfl, rfl⟩
-- steady
theorem steady_l {g o : St} {lo hi : Int32} {n : Nat} (hn : n ≤ 200) (hg : g 0 1 = nI n) (ho : o 0 21 = nI n) (he : ∀ j, j < n → g 1 j = o 14 j) : ∀ (m i : Nat), i ≤ n → n < i + m → ∀ (a b : Int32),
    ∃ r : Int32, it3 (f_Ai_longestWithin_L23 g lo hi) m a b (nI i) = some (.inl r) ∧ it4 (f_Mo_steady_L29 lo hi) m a b (nI i) o = some (r, o) := by
  intro m
  induction m with
  | zero => intro i h1 h2; omega
  | succ m ih =>
    intro i h1 h2 a b
    rw [it3_s, it4_s, f_Ai_longestWithin_L23, f_Mo_steady_L29]
    rw [hg, ho]
    by_cases hi' : i = n
    · subst hi'
      rw [if_pos (nI_le (Nat.le_refl i) (by omega)), if_pos (nI_le (Nat.le_refl i) (by omega))]
      exact ⟨a, rfl, rfl⟩
    · rw [if_neg (nI_ge (by omega) (by omega)), if_neg (nI_ge (by omega) (by omega))]
      have hin : inb (nI i) 200 = true := inb_of (show i < 200 by omega) (by decide)
      have step : ∀ w : Int32, ∃ r : Int32, f_Ai_longestWithin_J74 (it3 (f_Ai_longestWithin_L23 g lo hi) m) w a b (nI i) 0 = some (.inl r) ∧ f_Mo_steady_J61 (it4 (f_Mo_steady_L29 lo hi) m) w a b (nI i) o = some (r, o) := by
        intro w
        obtain ⟨r, q1, q2⟩ := ih (i + 1) (by omega) (by omega) (if a < w then w else a) w
        refine ⟨r, ?_, ?_⟩
        · unfold f_Ai_longestWithin_J74 f_Ma_max
          by_cases hc : a < w
          · rw [if_pos hc] at q1 ⊢; rw [xv1_s]; simp only [letb, nIp1]; exact q1
          · rw [if_neg hc] at q1 ⊢; rw [xv1_s]; simp only [letb, nIp1]; exact q1
        · unfold f_Mo_steady_J61 f_Mo_steady_J75
          by_cases hc : a < w
          · rw [if_pos hc] at q2; rw [if_neg (Int32.not_le.mpr hc)]; simp only [letb, nIp1]; exact q2
          · rw [if_neg hc] at q2; rw [if_pos (Int32.not_lt.mp hc)]; simp only [letb, nIp1]; exact q2
      have i74 : ∀ w v6, f_Ai_longestWithin_J74 (it3 (f_Ai_longestWithin_L23 g lo hi) m) w a b (nI i) v6 = f_Ai_longestWithin_J74 (it3 (f_Ai_longestWithin_L23 g lo hi) m) w a b (nI i) 0 := fun _ _ => rfl
      simp only [letb, gb_t hin, cl_nI (show i < 2 ^ 31 by omega)]
      rw [he i (by omega)]
      by_cases hv : ¬ o 14 i < lo ∧ o 14 i ≤ hi
      · rw [wi_ok hv.1 hv.2, if_neg hv.1, if_neg (Int32.not_lt.mpr hv.2)]
        obtain ⟨r, q1, q2⟩ := step (b + 1)
        exact ⟨r, q1, q2⟩
      · rw [wi_no hv]
        obtain ⟨r, q1, q2⟩ := step 0
        refine ⟨r, ?_, q2⟩
        by_cases h3 : o 14 i < lo
        · rw [if_pos h3]; exact q1
        · rw [if_neg h3, if_pos (Int32.not_le.mp (fun q => hv ⟨h3, q⟩))]; exact q1
theorem op_steady {gGo gFo gPk : St} {qPk : Int64} {gSk gAi gSh gJo o : St} (h : INV gGo gFo gPk qPk gSk gAi gSh gJo o) (p1 p2 : Int32) : AGR0 [(xIAE, 1)] (f_Cc_steady gGo gFo gPk qPk gSk gAi gSh gJo p1 p2) (f_Mo_steady o p1 p2) o (fun o' => INV gGo gFo gPk qPk gSk gAi gSh gJo o') := by
  have hI := h
  obtain ⟨-, -, -, -, ⟨n, lg, h1, h2, h3, h4, h5, h6, h7, h8⟩, -, -⟩ := h
  unfold f_Cc_steady f_Ai_longestWithin f_Mo_steady
  by_cases hv : p1 ≤ p2
  · rw [if_pos hv, if_neg (Int32.not_lt.mpr hv)]
    obtain ⟨r, q1, q2⟩ := steady_l (g := gAi) (o := up2 o 0 0 0) (lo := p1) (hi := p2) h1 h2 h3 (fun j hj => (h8 j hj).1) FU 0 (Nat.zero_le _) (by unfold FU; omega) 0 0
    refine Or.inr ⟨r, up2 o 0 0 0, ?_, q2, rfl, hI⟩
    rw [show it3 (f_Ai_longestWithin_L23 gAi p1 p2) FU 0 0 0 = some (.inl r) from q1]
    rfl
  · rw [if_neg hv, if_pos (Int32.not_le.mp hv)]
    exact Or.inl ⟨xIAE, 1, 0, by simp, rfl, rfl⟩
