/-- the weight of a set, up to object m -/
def wt (w : Nat → Nat) (T : Nat) : Nat → Nat
  | 0 => 0
  | z + 1 => if T.testBit z then wt w T z + w z else wt w T z
/-- S goes into k crates -/
def Pt (w : Nat → Nat) (n L : Nat) : Nat → Nat → Prop
  | 0, S => S = 0
  | k + 1, S => ∃ T, T ≠ 0 ∧ T &&& S = T ∧ wt w T n ≤ L ∧ Pt w n L k (S - T)
/-- S goes into k crates, one of them with load l -/
def Qt (w : Nat → Nat) (n L S k l : Nat) : Prop := ∃ k' T, k = k' + 1 ∧ T ≠ 0 ∧ T &&& S = T ∧ wt w T n = l ∧ l ≤ L ∧ Pt w n L k' (S - T)
def Cm (w : Nat → Nat) (n L S c l : Nat) : Prop := (S = 0 ∧ c = 0 ∧ l = L) ∨ (S ≠ 0 ∧ c ≤ cn S 6 ∧ Qt w n L S c l ∧ ∀ k l', Qt w n L S k l' → c < k ∨ (c = k ∧ l ≤ l'))
def Spt (w : Nat → Nat) (n L S z f lt : Nat) : Prop := ∃ c l, Cm w n L (S - 2 ^ z) c l ∧ ((w z ≤ L - l ∧ f = c ∧ lt = l + w z) ∨ (L - l < w z ∧ f = c + 1 ∧ lt = w z))
theorem sub_xor : ∀ S T : Fin 64, T.val &&& S.val = T.val → S.val - T.val = S.val ^^^ T.val := by decide +kernel
theorem sub_le {S T : Nat} (h : T &&& S = T) : T ≤ S := by
  have := Nat.and_le_right (n := T) (m := S)
  omega
theorem sub_bit {S T : Nat} (hS : S < 64) (h : T &&& S = T) (z : Nat) : (S - T).testBit z = (S.testBit z && !T.testBit z) ∧ (T.testBit z = true → S.testBit z = true) := by
  have hT := sub_le h
  have hi : T.testBit z = true → S.testBit z = true := by
    intro q
    rw [← h, Nat.testBit_and] at q
    cases hs : S.testBit z
    · rw [hs] at q; simp at q
    · rfl
  refine ⟨?_, hi⟩
  rw [sub_xor ⟨S, hS⟩ ⟨T, by omega⟩ h, Nat.testBit_xor]
  cases hs : S.testBit z <;> cases ht : T.testBit z <;> simp
  exact absurd (hi ht) (by rw [hs]; decide)
theorem wt_split {w : Nat → Nat} {S T : Nat} (hS : S < 64) (h : T &&& S = T) : ∀ m, wt w S m = wt w T m + wt w (S - T) m
  | 0 => rfl
  | m + 1 => by
    show (if S.testBit m then wt w S m + w m else wt w S m) = (if T.testBit m then wt w T m + w m else wt w T m) + (if (S - T).testBit m then wt w (S - T) m + w m else wt w (S - T) m)
    rw [(sub_bit hS h m).1, wt_split hS h m]
    have hi := (sub_bit hS h m).2
    cases hs : S.testBit m <;> cases ht : T.testBit m <;> simp
    · rw [hs, ht] at hi; simp at hi
    · omega
    · omega
theorem wt_one {w : Nat → Nat} (z : Nat) : ∀ m, wt w (2 ^ z) m = if z < m then w z else 0
  | 0 => rfl
  | m + 1 => by
    show (if (2 ^ z).testBit m then wt w (2 ^ z) m + w m else wt w (2 ^ z) m) = _
    rw [Nat.testBit_two_pow, wt_one z m]
    by_cases h : z = m
    · subst h; simp
    · have : z < m + 1 ↔ z < m := by omega
      simp [h, this]
theorem wt_ge {w : Nat → Nat} {T z : Nat} (hz : T.testBit z = true) : ∀ m, z < m → w z ≤ wt w T m
  | 0, h => by omega
  | m + 1, h => by
    show _ ≤ (if T.testBit m then wt w T m + w m else wt w T m)
    by_cases hm : z = m
    · subst hm; rw [if_pos hz]; omega
    · have := wt_ge (w := w) hz m (by omega)
      split <;> omega
theorem wt_bd {w : Nat → Nat} {T n : Nat} (hw : ∀ z, z < n → w z ≤ 100000) : ∀ m, m ≤ n → wt w T m ≤ m * 100000
  | 0, _ => Nat.zero_le _
  | m + 1, h => by
    have h1 := wt_bd (T := T) hw m (by omega)
    have h2 := hw m (by omega)
    have h3 : (m + 1) * 100000 = m * 100000 + 100000 := Nat.succ_mul m 100000
    rw [h3]
    show (if T.testBit m then wt w T m + w m else wt w T m) ≤ _
    by_cases h : T.testBit m = true
    · rw [if_pos h]; exact Nat.add_le_add h1 h2
    · rw [if_neg h]; exact Nat.le_trans h1 (Nat.le_add_right _ _)
theorem one_sub : ∀ S : Fin 64, ∀ z : Fin 6, S.val.testBit z.val = true → 2 ^ z.val &&& S.val = 2 ^ z.val ∧ 2 ^ z.val ≠ 0 ∧ cn S.val 6 = cn (S.val - 2 ^ z.val) 6 + 1 ∧ (S.val - 2 ^ z.val).testBit z.val = false ∧ 2 ^ z.val ≤ S.val := by decide +kernel
theorem add_sub' : ∀ S T : Fin 64, ∀ z : Fin 6, S.val.testBit z.val = true → T.val &&& (S.val - 2 ^ z.val) = T.val → (T.val + 2 ^ z.val) &&& S.val = T.val + 2 ^ z.val ∧ 2 ^ z.val &&& (T.val + 2 ^ z.val) = 2 ^ z.val := by decide +kernel
theorem del_sub : ∀ S T : Fin 64, ∀ z : Fin 6, T.val.testBit z.val = true → T.val &&& S.val = T.val → (T.val - 2 ^ z.val) &&& (S.val - 2 ^ z.val) = T.val - 2 ^ z.val := by decide +kernel
theorem Pt_fit {w : Nat → Nat} {n L z : Nat} (hz : z < n) : ∀ {k S : Nat}, S < 64 → Pt w n L k S → S.testBit z = true → w z ≤ L
  | 0, S, _, h, hb => by
    have : S = 0 := h
    rw [this] at hb
    simp at hb
  | k + 1, S, hS, ⟨T, h1, h2, h3, h4⟩, hb => by
    cases ht : T.testBit z
    · refine Pt_fit hz (show S - T < 64 by omega) h4 ?_
      rw [(sub_bit hS h2 z).1, hb, ht]; rfl
    · exact Nat.le_trans (wt_ge ht n hz) h3
theorem Qt_Pt {w : Nat → Nat} {n L S k l : Nat} (h : Qt w n L S k l) : Pt w n L k S := by
  obtain ⟨k', T, rfl, h1, h2, h3, h4, h5⟩ := h
  exact ⟨T, h1, h2, by omega, h5⟩
theorem Pt_Qt {w : Nat → Nat} {n L S k : Nat} (h : Pt w n L (k + 1) S) : ∃ l, Qt w n L S (k + 1) l := by
  obtain ⟨T, h1, h2, h3, h4⟩ := h
  exact ⟨_, k, T, rfl, h1, h2, rfl, h3, h4⟩
theorem Cm_Pt {w : Nat → Nat} {n L S c l : Nat} (h : Cm w n L S c l) : Pt w n L c S ∧ c ≤ cn S 6 ∧ l ≤ L ∧ ∀ k, Pt w n L k S → c ≤ k := by
  rcases h with ⟨rfl, rfl, rfl⟩ | ⟨h0, h1, h2, h3⟩
  · exact ⟨rfl, Nat.zero_le _, Nat.le_refl _, fun k _ => Nat.zero_le _⟩
  · refine ⟨Qt_Pt h2, h1, ?_, fun k hk => ?_⟩
    · obtain ⟨_, _, _, _, _, _, h, _⟩ := h2; exact h
    · cases k with
      | zero => exact absurd hk h0
      | succ k =>
        obtain ⟨l', h⟩ := Pt_Qt hk
        rcases h3 _ _ h with h | h <;> omega
theorem Cm_step {w : Nat → Nat} {n L S f lt : Nat} (hS : S < 64) (hSn : ∀ z, S.testBit z = true → z < n) (hn : n ≤ 6) (hw : ∀ z, z < n → 1 ≤ w z ∧ w z ≤ L) (h0 : S ≠ 0) (hex : ∃ z, S.testBit z = true ∧ Spt w n L S z f lt) (hmin : ∀ z, S.testBit z = true → ∃ f' lt', Spt w n L S z f' lt' ∧ (f < f' ∨ (f = f' ∧ lt ≤ lt'))) : Cm w n L S f lt := by
  refine Or.inr ⟨h0, ?_, ?_, fun k l' hq => ?_⟩
  · obtain ⟨z, hz, c, l, hc, h⟩ := hex
    obtain ⟨o1, o2, o3, o4, o5⟩ := one_sub ⟨S, hS⟩ ⟨z, by have := hSn z hz; omega⟩ hz
    simp only at o3
    have := (Cm_Pt hc).2.1
    rcases h with h | h <;> omega
  · obtain ⟨z, hz, c, l, hc, h⟩ := hex
    have hzn := hSn z hz
    obtain ⟨o1, o2, o3, o4, o5⟩ := one_sub ⟨S, hS⟩ ⟨z, by omega⟩ hz
    simp only at o1 o2 o4 o5
    have hwz := hw z hzn
    rcases h with ⟨q1, rfl, rfl⟩ | ⟨q1, rfl, rfl⟩
    · rcases hc with ⟨_, _, r⟩ | ⟨_, _, ⟨k', T, rfl, t1, t2, t3, t4, t5⟩, _⟩
      · omega
      · have tl := sub_le t2
        obtain ⟨a1, a2⟩ := add_sub' ⟨S, hS⟩ ⟨T, by omega⟩ ⟨z, by omega⟩ hz t2
        simp only at a1 a2
        refine ⟨k', T + 2 ^ z, rfl, by omega, a1, ?_, by omega, ?_⟩
        · rw [wt_split (show T + 2 ^ z < 64 by have := sub_le a1; omega) a2, wt_one, if_pos hzn, Nat.add_sub_cancel, t3, Nat.add_comm]
        · have : S - (T + 2 ^ z) = S - 2 ^ z - T := by omega
          rw [this]; exact t5
    · exact ⟨c, 2 ^ z, rfl, o2, o1, by rw [wt_one, if_pos hzn], hwz.2, (Cm_Pt hc).1⟩
  · obtain ⟨k', T, rfl, t1, t2, t3, t4, t5⟩ := hq
    have tl := sub_le t2
    obtain ⟨⟨z, hz6⟩, hz⟩ := S_ex ⟨T, by omega⟩ t1
    simp only at hz
    have hzS := (sub_bit hS t2 z).2 hz
    have hzn := hSn z hzS
    obtain ⟨o1, o2, o3, o4, o5⟩ := one_sub ⟨S, hS⟩ ⟨z, by omega⟩ hzS
    simp only at o1 o2 o4 o5
    obtain ⟨p1, p2, p3, p4, p5⟩ := one_sub ⟨T, by omega⟩ ⟨z, by omega⟩ hz
    simp only at p1 p2 p4 p5
    obtain ⟨f', lt', ⟨c, l, hc, hb⟩, hle⟩ := hmin z hzS
    have hwz := hw z hzn
    have hwT := wt_ge (w := w) hz n hzn
    suffices hs : f' < k' + 1 ∨ (f' = k' + 1 ∧ lt' ≤ l') by omega
    by_cases hT : T = 2 ^ z
    · have hl : l' = w z := by rw [← t3, hT, wt_one, if_pos hzn]
      have ht5 : Pt w n L k' (S - 2 ^ z) := hT ▸ t5
      have hck := (Cm_Pt hc).2.2.2 k' ht5
      rcases hb with ⟨q1, rfl, rfl⟩ | ⟨q1, rfl, rfl⟩ <;> omega
    · have d := del_sub ⟨S, hS⟩ ⟨T, by omega⟩ ⟨z, hz6⟩ hz t2
      simp only at d
      have hw2 := wt_split (w := w) (show T < 64 by omega) p1 n
      rw [wt_one, if_pos hzn] at hw2
      have hq : Qt w n L (S - 2 ^ z) (k' + 1) (l' - w z) := ⟨k', T - 2 ^ z, rfl, by omega, d, by omega, by omega, by
        have : S - 2 ^ z - (T - 2 ^ z) = S - T := by omega
        rw [this]; exact t5⟩
      rcases hc with ⟨r0, _⟩ | ⟨_, _, _, hm⟩
      · omega
      · have := hm _ _ hq
        rcases hb with ⟨q1, rfl, rfl⟩ | ⟨q1, rfl, rfl⟩ <;> omega
