theorem bx_tab : ∀ S : Fin 64, ∀ z : Fin 6, S.val.testBit z.val = true → nI S.val ^^^ ((1 : Int32) <<< (nI z.val &&& 31)) = nI (S.val - 2 ^ z.val) := by decide +kernel
theorem cn_6 : ∀ S : Fin 64, cn S.val 6 ≤ 6 := by decide +kernel
theorem and_nI : ∀ S T : Fin 64, (decide (nI T.val &&& nI S.val = nI T.val)) = decide (T.val &&& S.val = T.val) := by decide +kernel
def Rgs (g gGo : St) (w : Nat → Nat) (n L S : Nat) : Prop := (∀ k, k ≠ 4 → k ≠ 5 → g k = gGo k) ∧ ∀ s, s < S → ∃ c l, g 4 s = nI c ∧ g 5 s = nI l ∧ Cm w n L s c l
def Jp (w : Nat → Nat) (n L S i f lt : Nat) : Prop := (f = 7 ∧ lt = 0 ∧ ∀ z, z < i → S.testBit z = false) ∨ (f ≤ 6 ∧ lt ≤ L ∧ (∃ z, z < i ∧ S.testBit z = true ∧ Spt w n L S z f lt) ∧ ∀ z, z < i → S.testBit z = true → ∃ f' lt', Spt w n L S z f' lt' ∧ (f < f' ∨ (f = f' ∧ lt ≤ lt')))
theorem j120 {kc : Int32 → Int32 → Int32 → Option St} {f lt i f2 l2 : Nat} {a b : Int32} (h1 : f < 2 ^ 31) (h2 : lt < 2 ^ 31) (h3 : f2 < 2 ^ 31) (h4 : l2 < 2 ^ 31) : f_Go_partSet_J120 kc (nI l2) (nI f) (nI lt) (nI i) a b (nI f2) = if f2 < f ∨ (f2 = f ∧ l2 < lt) then kc (nI f2) (nI l2) (nI (i + 1)) else kc (nI f) (nI lt) (nI (i + 1)) := by
  unfold f_Go_partSet_J120 f_Go_partSet_J141 f_Go_partSet_J148
  simp only [letb, nIp1]
  by_cases q1 : f2 < f
  · rw [if_pos ((nI_ltI h3 h1).mpr q1), if_pos (Or.inl q1)]
  · rw [if_neg (fun q => q1 ((nI_ltI h3 h1).mp q))]
    by_cases q2 : f2 = f
    · rw [if_pos ((nI_eq h3 h1).mpr q2)]
      by_cases q3 : l2 < lt
      · rw [if_neg (fun q => by have := (nI_leI h2 h4).mp q; omega), if_pos (Or.inr ⟨q2, q3⟩)]
      · rw [if_pos ((nI_leI h2 h4).mpr (by omega)), if_neg (by omega)]
    · rw [if_neg (fun q => q2 ((nI_eq h3 h1).mp q)), if_neg (by omega)]
theorem pset_l {g gGo : St} {w : Nat → Nat} {n L S : Nat} (hS : S < 64) (hSn : ∀ z, S.testBit z = true → z < n) (hn : n ≤ 6) (hL : L < 2 ^ 31) (hw : ∀ z, z < n → 1 ≤ w z ∧ w z ≤ L) (hg : ∀ z, z < n → gGo 2 z = nI (w z)) (hc : gGo 0 5 = nI n) (hR : Rgs g gGo w n L S) : ∀ (m i : Nat), i ≤ n → n < i + m → ∀ f lt, Jp w n L S i f lt → ∃ f' lt', Jp w n L S n f' lt' ∧ it3 (f_Go_partSet_L9 g (nI S) (nI L)) m (nI f) (nI lt) (nI i) = some (up2 (up2 g 4 S (nI f')) 5 S (nI lt')) := by
  intro m
  induction m with
  | zero => intro i h1 h2; omega
  | succ m ih =>
    intro i h1 h2 f lt hJ
    rw [it3_s, f_Go_partSet_L9, hR.1 0 (by decide) (by decide), hc]
    by_cases hi : i = n
    · subst hi
      rw [if_pos (nI_le (Nat.le_refl _) (by omega))]
      refine ⟨f, lt, hJ, ?_⟩
      unfold f_Go_partSet_X154
      simp only [letb, gb_t (inb_of hS (by decide)), cl_nI (show S < 2 ^ 31 by omega)]
    · have hi6 : i < 6 := by omega
      rw [if_neg (nI_ge (by omega) (by omega))]
      have hbd : f < 2 ^ 31 ∧ lt < 2 ^ 31 := by rcases hJ with ⟨a, b, _⟩ | ⟨a, b, _⟩ <;> omega
      cases hm : S.testBit i
      · rw [if_pos ((bit0 hS hi6).mpr hm)]
        unfold f_Go_partSet_J148
        simp only [letb, nIp1]
        refine ih (i + 1) (by omega) (by omega) f lt ?_
        rcases hJ with ⟨a, b, d⟩ | ⟨a, b, ⟨z, z1, z2, z3⟩, d⟩
        · refine Or.inl ⟨a, b, fun z hz => ?_⟩
          by_cases hzi : z = i
          · rw [hzi]; exact hm
          · exact d z (by omega)
        · refine Or.inr ⟨a, b, ⟨z, by omega, z2, z3⟩, fun z hz hzm => ?_⟩
          by_cases hzi : z = i
          · rw [hzi, hm] at hzm; cases hzm
          · exact d z (by omega) hzm
      · rw [if_neg (fun q => by rw [(bit0 hS hi6).mp q] at hm; cases hm)]
        obtain ⟨o1, o2, o3, o4, o5⟩ := one_sub ⟨S, hS⟩ ⟨i, hi6⟩ hm
        have o3' : cn S 6 = cn (S - 2 ^ i) 6 + 1 := o3
        have o5' : 2 ^ i ≤ S := o5
        have o2' : 2 ^ i ≠ 0 := o2
        have hbx := bx_tab ⟨S, hS⟩ ⟨i, hi6⟩ hm
        have hbx : nI S ^^^ ((1 : Int32) <<< (nI i &&& 31)) = nI (S - 2 ^ i) := hbx
        obtain ⟨c, l, c1, c2, c3⟩ := hR.2 (S - 2 ^ i) (Nat.sub_lt (Nat.lt_of_lt_of_le (Nat.two_pow_pos i) o5') (Nat.two_pow_pos i))
        obtain ⟨-, c4, c5, -⟩ := Cm_Pt c3
        have c6 := cn_6 ⟨S, hS⟩
        have c6 : cn S 6 ≤ 6 := c6
        obtain ⟨w1, w2⟩ := hw i (by omega)
        simp only [letb]
        have hr : S - 2 ^ i < 64 := Nat.lt_of_le_of_lt (Nat.sub_le _ _) hS
        rw [hbx, gb_t (inb_of hi6 (by decide)), gb_t (inb_of hr (by decide)), cl_nI (show i < 2 ^ 31 by omega), cl_nI (show S - 2 ^ i < 2 ^ 31 by omega), hR.1 2 (by decide) (by decide), hg i (by omega), c2, nIsub c5]
        have key : ∀ f2 l2, f2 ≤ 6 → l2 ≤ L → Spt w n L S i f2 l2 → ∃ f' lt', Jp w n L S n f' lt' ∧ (if f2 < f ∨ (f2 = f ∧ l2 < lt) then it3 (f_Go_partSet_L9 g (nI S) (nI L)) m (nI f2) (nI l2) (nI (i + 1)) else it3 (f_Go_partSet_L9 g (nI S) (nI L)) m (nI f) (nI lt) (nI (i + 1))) = some (up2 (up2 g 4 S (nI f')) 5 S (nI lt')) := by
          intro f2 l2 k1 k2 k3
          by_cases hlt : f2 < f ∨ (f2 = f ∧ l2 < lt)
          · rw [if_pos hlt]
            refine ih (i + 1) (by omega) (by omega) f2 l2 (Or.inr ⟨k1, k2, ⟨i, by omega, hm, k3⟩, fun z hz hzm => ?_⟩)
            by_cases hzi : z = i
            · subst hzi; exact ⟨f2, l2, k3, Or.inr ⟨rfl, Nat.le_refl _⟩⟩
            · rcases hJ with ⟨a, b, d⟩ | ⟨a, b, _, d⟩
              · rw [d z (by omega)] at hzm; cases hzm
              · obtain ⟨f', lt', e1, e2⟩ := d z (by omega) hzm
                exact ⟨f', lt', e1, by omega⟩
          · rw [if_neg hlt]
            refine ih (i + 1) (by omega) (by omega) f lt ?_
            rcases hJ with ⟨a, b, d⟩ | ⟨a, b, ⟨z, z1, z2, z3⟩, d⟩
            · omega
            · refine Or.inr ⟨a, b, ⟨z, by omega, z2, z3⟩, fun z hz hzm => ?_⟩
              by_cases hzi : z = i
              · subst hzi; exact ⟨f2, l2, k3, by omega⟩
              · exact d z (by omega) hzm
        have hi1 : inb (nI i) 6 = true := inb_of hi6 (by decide)
        have hi2 : inb (nI (S - 2 ^ i)) 64 = true := inb_of hr (by decide)
        unfold f_Go_partSet_J62 f_Go_partSet_J88
        simp only [letb, gb_t hi1, gb_t hi2, cl_nI (show i < 2 ^ 31 by omega), cl_nI (show S - 2 ^ i < 2 ^ 31 by omega), hR.1 2 (by decide) (by decide), hg i (by omega), c1, c2, if_true, n10, if_false, nIp1, nI_add]
        by_cases hf : L - l < w i
        · rw [if_pos ((nI_ltI (by omega) (by omega)).mpr hf), j120 hbd.1 hbd.2 (by omega) (by omega)]
          exact key (c + 1) (w i) (by omega) w2 ⟨c, l, c3, Or.inr ⟨hf, rfl, rfl⟩⟩
        · rw [if_neg (fun q => hf ((nI_ltI (by omega) (by omega)).mp q)), j120 hbd.1 hbd.2 (by omega) (by omega)]
          exact key c (l + w i) (by omega) (by omega) ⟨c, l, c3, Or.inl ⟨by omega, rfl, rfl⟩⟩
theorem pset_ok {g gGo : St} {w : Nat → Nat} {n L S : Nat} (hS : S < 64) (h0 : S ≠ 0) (hSn : ∀ z, S.testBit z = true → z < n) (hn : n ≤ 6) (hL : L < 2 ^ 31) (hw : ∀ z, z < n → 1 ≤ w z ∧ w z ≤ L) (hg : ∀ z, z < n → gGo 2 z = nI (w z)) (hc : gGo 0 5 = nI n) (hR : Rgs g gGo w n L S) : ∃ g', f_Go_partSet g (nI S) (nI L) = some g' ∧ Rgs g' gGo w n L (S + 1) := by
  obtain ⟨f, lt, hJ, e⟩ := pset_l hS hSn hn hL hw hg hc hR FU 0 (Nat.zero_le _) (by unfold FU; omega) 7 0 (Or.inl ⟨rfl, rfl, fun z hz => absurd hz (Nat.not_lt_zero z)⟩)
  refine ⟨_, e, fun k k4 k5 => ?_, fun s hs => ?_⟩
  · rw [up2_n k5, up2_n k4, hR.1 k k4 k5]
  · by_cases hsS : s = S
    · subst hsS
      refine ⟨f, lt, ?_, ?_, ?_⟩
      · rw [up2_n (by decide), up2_at]; simp
      · rw [up2_at]; simp
      · rcases hJ with ⟨_, _, d⟩ | ⟨_, _, ⟨z, z1, z2, z3⟩, d⟩
        · obtain ⟨⟨y, hy⟩, hy2⟩ := S_ex ⟨s, hS⟩ h0
          rw [d y (hSn y hy2)] at hy2; cases hy2
        · exact Cm_step hS hSn hn hw h0 ⟨z, z2, z3⟩ (fun z hz => d z (hSn z hz) hz)
    · obtain ⟨c, l, c1, c2, c3⟩ := hR.2 s (by omega)
      refine ⟨c, l, ?_, ?_, c3⟩
      · rw [up2_n (by decide), up2_at]; simp [hsS, c1]
      · rw [up2_at]; simp only [hsS, and_false, if_false]; rw [up2_n (by decide), c2]
theorem lc_l {gGo : St} {w : Nat → Nat} {n L : Nat} (hn : n ≤ 6) (hL : L < 2 ^ 31) (hw : ∀ z, z < n → 1 ≤ w z ∧ w z ≤ L) (hg : ∀ z, z < n → gGo 2 z = nI (w z)) (hc : gGo 0 5 = nI n) : ∀ (m S : Nat), 1 ≤ S → S ≤ 2 ^ n → 2 ^ n < S + m → ∀ g, Rgs g gGo w n L S → ∃ c l g', (∀ k, k ≠ 4 → k ≠ 5 → g' k = gGo k) ∧ Cm w n L (2 ^ n - 1) c l ∧ it3 (f_Go_leastCrates_L66 (nI L)) m (nI (2 ^ n)) (nI S) g = some (.inl (nI c, g')) := by
  have h64 := p2_64 hn
  intro m
  induction m with
  | zero => intro S h0 h1 h2; omega
  | succ m ih =>
    intro S h0 h1 h2 g hR
    rw [it3_s, f_Go_leastCrates_L66]
    by_cases hS : S = 2 ^ n
    · rw [hS, if_pos (nI_le (Nat.le_refl _) (by omega))]
      obtain ⟨c, l, c1, c2, c3⟩ := hR.2 (2 ^ n - 1) (by omega)
      refine ⟨c, l, g, hR.1, c3, ?_⟩
      unfold f_Go_leastCrates_X83
      have e : nI (2 ^ n) - 1 = nI (2 ^ n - 1) := by
        have := nI_pred (2 ^ n - 1)
        rw [show 2 ^ n - 1 + 1 = 2 ^ n by omega] at this
        exact this
      rw [e, gb_t (inb_of (show 2 ^ n - 1 < 64 by omega) (by decide)), cl_nI (by omega), c1]
      rfl
    · rw [if_neg (nI_ge (by omega) (by omega))]
      obtain ⟨g', e1, e2⟩ := pset_ok (S := S) (by omega) (by omega) (fun z hz => bit_lt (by omega) hz) hn hL hw hg hc hR
      rw [e1, xv1_s]
      simp only [letb, nIp1]
      exact ih (S + 1) (by omega) (by omega) (by omega) g' e2
theorem lf_l {gGo : St} {w : Nat → Nat} {n L : Nat} (hn : n ≤ 6) (hL : L < 2 ^ 31) (hw : ∀ z, z < n → w z < 2 ^ 31) (hg : ∀ z, z < n → gGo 2 z = nI (w z)) (hc : gGo 0 5 = nI n) : ∀ (m i : Nat), i ≤ n → n < i + m → ((∃ z, z < n ∧ L < w z) ∧ it1 (f_Go_leastCrates_L17 gGo (nI L)) m (nI i) = some (.inl (-1, gGo))) ∨ ((∀ z, i ≤ z → z < n → w z ≤ L) ∧ it1 (f_Go_leastCrates_L17 gGo (nI L)) m (nI i) = f_Go_leastCrates_X43 gGo (nI L) (nI n)) := by
  intro m
  induction m with
  | zero => intro i h1 h2; omega
  | succ m ih =>
    intro i h1 h2
    rw [it1_s, f_Go_leastCrates_L17, hc]
    by_cases hi : i = n
    · subst hi
      rw [if_pos (nI_le (Nat.le_refl _) (by omega))]
      exact Or.inr ⟨fun z h1 h2 => by omega, rfl⟩
    · rw [if_neg (nI_ge (by omega) (by omega))]
      simp only [letb]
      rw [gb_t (inb_of (show i < 6 by omega) (by decide)), cl_nI (by omega), hg i (by omega), nIp1]
      have := hw i (by omega)
      by_cases hq : w i ≤ L
      · rw [if_pos ((nI_leI (by omega) hL).mpr hq)]
        rcases ih (i + 1) (by omega) (by omega) with h | ⟨h1, h2⟩
        · exact Or.inl h
        · refine Or.inr ⟨fun z hz1 hz2 => ?_, h2⟩
          by_cases hzi : z = i
          · rw [hzi]; exact hq
          · exact h1 z (by omega) hz2
      · rw [if_neg (fun q => hq ((nI_leI (by omega) hL).mp q))]
        exact Or.inl ⟨⟨i, by omega, by omega⟩, rfl⟩
-- the reference
theorem wt_l {g : St} {w : Nat → Nat} {n T : Nat} (hn : n ≤ 6) (hT : T < 64) (hg : ∀ z, z < n → g 2 z = nI (w z)) (hc : g 0 1 = nI n) : ∀ (m i : Nat), i ≤ n → n < i + m → it2 (f_Mo_weight_L4 g (nI T)) m (nI (wt w T i)) (nI i) = some (nI (wt w T n)) := by
  intro m
  induction m with
  | zero => intro i h1 h2; omega
  | succ m ih =>
    intro i h1 h2
    rw [it2_s, f_Mo_weight_L4, hc]
    by_cases hi : i = n
    · subst hi
      rw [if_pos (nI_le (Nat.le_refl _) (by omega))]
      rfl
    · have hi6 : i < 6 := by omega
      rw [if_neg (nI_ge (by omega) (by omega)), mo_isIn hT hi6, xv1_s]
      unfold f_Mo_weight_J32
      simp only [letb, nIp1]
      have := ih (i + 1) (by omega) (by omega)
      have hs : wt w T (i + 1) = if T.testBit i then wt w T i + w i else wt w T i := rfl
      rw [hs] at this
      cases hm : T.testBit i
      · rw [hm] at this
        exact this
      · rw [hm] at this
        rw [if_neg (show ¬ (if true = true then (1 : Int32) else 0) = 0 by decide), gb_t (inb_of hi6 (by decide)), cl_nI (by omega), hg i (by omega), nI_add]
        exact this
def Mp (w : Nat → Nat) (n L S v : Nat) : Prop := v ≤ 99 ∧ (v < 99 → Pt w n L v S) ∧ ∀ k, Pt w n L k S → v ≤ k
def Ii (w : Nat → Nat) (n L S t v : Nat) : Prop := v ≤ 99 ∧ (v < 99 → Pt w n L v S) ∧ (S = 0 → v = 0) ∧ ∀ T k, T < t → T ≠ 0 → T &&& S = T → wt w T n ≤ L → Pt w n L k (S - T) → v ≤ k + 1
def Ri (g o : St) (w : Nat → Nat) (n L S : Nat) : Prop := (∀ k, k ≠ 11 → g k = o k) ∧ ∀ s, s < S → ∃ v, g 11 s = nI v ∧ Mp w n L s v
theorem Ri_up {g o : St} {w : Nat → Nat} {n L S : Nat} {x : Int32} (h : Ri g o w n L S) : Ri (up2 g 11 S x) o w n L S := by
  refine ⟨fun k hk => (up2_n hk).trans (h.1 k hk), fun s hs => ?_⟩
  obtain ⟨v, v1, v2⟩ := h.2 s hs
  refine ⟨v, ?_, v2⟩
  rw [up2_at]
  have : ¬ s = S := by omega
  simp [this, v1]
theorem in_l {o : St} {w : Nat → Nat} {n L S A : Nat} (hn : n ≤ 6) (hL : L < 2 ^ 31) (hS : S < 64) (hw : ∀ z, z < n → w z ≤ 100000) (hg : ∀ z, z < n → o 2 z = nI (w z)) (hc : o 0 1 = nI n) {kc : Int32 → Int32 → St → Option (Int32 × St)} : ∀ (m t : Nat), 1 ≤ t → t ≤ S + 1 → S + 1 < t + m → ∀ g v, Ri g o w n L S → g 11 S = nI v → Ii w n L S t v → ∃ g' v', Ri g' o w n L S ∧ g' 11 S = nI v' ∧ Ii w n L S (S + 1) v' ∧ it4 (f_Mo_split_L54 (nI L) kc) m (nI A) (nI S) (nI t) g = kc (nI A) (nI (S + 1)) g' := by
  intro m
  induction m with
  | zero => intro t h0 h1 h2; omega
  | succ m ih =>
    intro t h0 h1 h2 g v hR hv hI
    rw [it4_s, f_Mo_split_L54]
    by_cases ht : t = S + 1
    · rw [ht, if_pos ((nI_ltI (by omega) (by omega)).mpr (by omega))]
      unfold f_Mo_split_X143
      simp only [letb, nIp1]
      exact ⟨g, v, hR, hv, ht ▸ hI, rfl⟩
    · have ht64 : t < 64 := by omega
      rw [if_neg (fun q => by have := (nI_ltI (by omega) (by omega)).mp q; omega)]
      have hkeep : ∀ (s0 : Int32), (∀ k, t &&& S = t → wt w t n ≤ L → Pt w n L k (S - t) → v ≤ k + 1) → ∃ g' v', Ri g' o w n L S ∧ g' 11 S = nI v' ∧ Ii w n L S (S + 1) v' ∧ f_Mo_split_J130 (it4 (f_Mo_split_L54 (nI L) kc) m) (nI S) (nI A) (nI S) (nI t) s0 g = kc (nI A) (nI (S + 1)) g' := by
        intro s0 hk
        unfold f_Mo_split_J130 f_Mo_split_J136
        simp only [letb, nIp1]
        rw [gb_t (inb_of hS (by decide)), gb_t (inb_of hS (by decide)), cl_nI (show S < 2 ^ 31 by omega), hv]
        refine ih (t + 1) (by omega) (by omega) (by omega) _ v (Ri_up hR) (by rw [up2_at]; simp) ⟨hI.1, hI.2.1, hI.2.2.1, fun T k q1 q2 q3 q4 q5 => ?_⟩
        by_cases hT : T = t
        · subst hT; exact hk k q3 q4 q5
        · exact hI.2.2.2 T k (by omega) q2 q3 q4 q5
      have hand := and_nI ⟨S, hS⟩ ⟨t, ht64⟩
      simp only at hand
      by_cases hsub : t &&& S = t
      · rw [if_pos (of_decide_eq_true (hand.trans (decide_eq_true hsub)))]
        have hwt : f_Mo_weight g (nI t) = some (nI (wt w t n)) := wt_l hn ht64 (fun z hz => by rw [hR.1 2 (by decide)]; exact hg z hz) (by rw [hR.1 0 (by decide)]; exact hc) FU 0 (Nat.zero_le _) (by unfold FU; omega)
        have hb := wt_bd (T := t) hw n (Nat.le_refl _)
        have hb2 : wt w t n < 2 ^ 31 := by omega
        rw [hwt, xv1_s]
        by_cases hq : L < wt w t n
        · rw [if_pos ((nI_ltI hL hb2).mpr hq)]
          unfold f_Mo_split_J83 f_Mo_split_J84
          rw [if_pos rfl]
          exact hkeep 0 (fun k _ q => by omega)
        · rw [if_neg (fun q => hq ((nI_ltI hL hb2).mp q))]
          unfold f_Mo_split_J84
          obtain ⟨u, u1, u2, u3, u4⟩ := hR.2 (S - t) (by omega)
          simp only [letb]
          rw [if_neg n10, nIsub (by omega), gb_t (inb_of (show S - t < 64 by omega) (by decide)), gb_t (inb_of hS (by decide)), gb_t (inb_of (show S - t < 64 by omega) (by decide)), cl_nI (show S < 2 ^ 31 by omega), cl_nI (show S - t < 2 ^ 31 by omega), u1, hv, nIp1]
          have hv99 := hI.1
          by_cases hc2 : v ≤ u + 1
          · rw [if_pos ((nI_leI (by omega) (by omega)).mpr hc2)]
            exact hkeep 1 (fun k _ _ q => by have := u4 k q; omega)
          · rw [if_neg (fun q => hc2 ((nI_leI (by omega) (by omega)).mp q))]
            unfold f_Mo_split_J136
            simp only [letb, nIp1]
            rw [gb_t (inb_of hS (by decide)), cl_nI (show S < 2 ^ 31 by omega)]
            refine ih (t + 1) (by omega) (by omega) (by omega) _ (u + 1) (Ri_up hR) (by rw [up2_at]; simp) ⟨by omega, fun _ => ⟨t, by omega, hsub, by omega, u3 (by omega)⟩, fun h => by omega, fun T k q1 q2 q3 q4 q5 => ?_⟩
            by_cases hT : T = t
            · subst hT; have := u4 k q5; omega
            · have := hI.2.2.2 T k (by omega) q2 q3 q4 q5; omega
      · rw [if_neg (of_decide_eq_false (hand.trans (decide_eq_false hsub)))]
        unfold f_Mo_split_J83 f_Mo_split_J84
        rw [if_pos rfl]
        exact hkeep 0 (fun k q => absurd q hsub)
theorem ou_l {o : St} {w : Nat → Nat} {n L : Nat} (hn : n ≤ 6) (hL : L < 2 ^ 31) (hw : ∀ z, z < n → w z ≤ 100000) (hg : ∀ z, z < n → o 2 z = nI (w z)) (hc : o 0 1 = nI n) : ∀ (m S : Nat), S ≤ 2 ^ n → 2 ^ n < S + m → ∀ g, Ri g o w n L S → ∃ g', Ri g' o w n L (2 ^ n) ∧ it3 (f_Mo_split_L30 (nI L)) m (nI (2 ^ n)) (nI S) g = f_Mo_split_X149 (nI (2 ^ n)) (nI (2 ^ n)) g' := by
  have h64 := p2_64 hn
  intro m
  induction m with
  | zero => intro S h1 h2; omega
  | succ m ih =>
    intro S h1 h2 g hR
    rw [it3_s, f_Mo_split_L30]
    by_cases hS : S = 2 ^ n
    · rw [hS, if_pos (nI_le (Nat.le_refl _) (by omega))]
      exact ⟨g, hS ▸ hR, rfl⟩
    · have hS64 : S < 64 := by omega
      rw [if_neg (nI_ge (by omega) (by omega))]
      have key : ∀ v : Nat, (S = 0 → v = 0) → v ≤ 99 → (v < 99 → Pt w n L v S) → ∃ g', Ri g' o w n L (2 ^ n) ∧ f_Mo_split_J50 (nI L) (it3 (f_Mo_split_L30 (nI L)) m) (nI S) (nI v) (nI (2 ^ n)) (nI S) g = f_Mo_split_X149 (nI (2 ^ n)) (nI (2 ^ n)) g' := by
        intro v k1 k2 k3
        unfold f_Mo_split_J50
        simp only [letb]
        rw [gb_t (inb_of hS64 (by decide)), cl_nI (show S < 2 ^ 31 by omega)]
        obtain ⟨g1, v1, r1, r2, r3, r4⟩ := in_l (A := 2 ^ n) (kc := it3 (f_Mo_split_L30 (nI L)) m) hn hL hS64 hw hg hc FU 1 (Nat.le_refl _) (by omega) (by unfold FU; omega) (up2 g 11 S (nI v)) v (Ri_up hR) (by rw [up2_at]; simp) ⟨k2, k3, k1, fun T k q1 q2 => by omega⟩
        obtain ⟨g2, s1, s2⟩ := ih (S + 1) (by omega) (by omega) g1 ⟨r1.1, fun s hs => by
          by_cases hsS : s = S
          · subst hsS
            refine ⟨v1, r2, r3.1, r3.2.1, fun k hk => ?_⟩
            cases k with
            | zero => rw [r3.2.2.1 hk]; exact Nat.le_refl _
            | succ k =>
              obtain ⟨T, t1, t2, t3, t4⟩ := hk
              exact r3.2.2.2 T k (by have := sub_le t2; omega) t1 t2 t3 t4
          · exact r1.2 s (by omega)⟩
        exact ⟨g2, s1, r4.trans s2⟩
      by_cases h0 : S = 0
      · rw [if_pos (show nI S = 0 by rw [h0]; rfl)]
        exact key 0 (fun _ => rfl) (by decide) (fun _ => h0)
      · rw [if_neg (nI_ne0 (by omega) (by omega))]
        exact key 99 (fun h => absurd h h0) (by decide) (fun h => by omega)
theorem INV_go {gGo gFo gPk : St} {qPk : Int64} {gSk gAi gSh gJo o g : St} (h : INV gGo gFo gPk qPk gSk gAi gSh gJo o) (hk : ∀ k, k ≠ 4 → k ≠ 5 → g k = gGo k) : INV g gFo gPk qPk gSk gAi gSh gJo o := by
  unfold INV RG RP
  rw [hk 0 (by decide) (by decide), hk 1 (by decide) (by decide), hk 2 (by decide) (by decide), hk 3 (by decide) (by decide)]
  exact h
theorem all_bit : ∀ n : Fin 7, ∀ z : Fin 6, z.val < n.val → (2 ^ n.val - 1).testBit z.val = true := by decide +kernel
theorem op_split {gGo gFo gPk : St} {qPk : Int64} {gSk gAi gSh gJo o : St} (h : INV gGo gFo gPk qPk gSk gAi gSh gJo o) (p1 : Int32) : AGR [(xIAE, 1)] (f_Cc_split gGo gFo gPk qPk gSk gAi gSh gJo p1) (f_Mo_split o p1) o (fun x o' => INV x gFo gPk qPk gSk gAi gSh gJo o') := by
  obtain ⟨hG, -⟩ := id h
  obtain ⟨n, hn, hc, ho1, hsz, hgr, hwk⟩ := id hG
  have h64 := p2_64 hn
  unfold f_Cc_split f_Go_leastCrates f_Mo_split f_Mo_split_J11
  by_cases h1 : p1 < 1
  · rw [if_neg (Int32.not_le.mpr h1), if_pos h1]
    exact Or.inl ⟨xIAE, 1, 0, List.mem_singleton.mpr rfl, rfl, rfl⟩
  · rw [if_pos (Int32.not_lt.mp h1), if_neg h1, goes_ok, xv2_s, if_neg n10]
    have hp0 : ¬ p1 < 0 := by
      intro q
      rw [i_lt] at q h1
      have a : (0 : Int32).toInt = 0 := rfl
      have b : (1 : Int32).toInt = 1 := rfl
      omega
    obtain ⟨L, hL, rfl⟩ := nI_of hp0
    let w : Nat → Nat := fun j => (gGo 2 j).toNatClampNeg
    have hgr1 : ∀ j, j < n → gGo 2 j = nI (w j) ∧ o 2 j = nI (w j) ∧ 1 ≤ w j ∧ w j ≤ 100000 := fun j hj => by
      obtain ⟨v, v1, v2, v3, v4⟩ := hgr j hj
      have : w j = v := by show (gGo 2 j).toNatClampNeg = v; rw [v3, cl_nI (by omega)]
      rw [this]; exact ⟨v3, v4, v1, v2⟩
    have hsh : (1 : Int32) <<< ((up2 o 0 0 0 0 1) &&& 31) = nI (2 ^ n) := by
      rw [show up2 o 0 0 0 0 1 = nI n from ho1, sh_1 hn]
    obtain ⟨gm, r1, r2⟩ := ou_l (o := up2 o 0 0 0) (w := w) hn hL (fun z hz => (hgr1 z hz).2.2.2) (fun z hz => (hgr1 z hz).2.1) ho1 FU 0 (Nat.zero_le _) (by unfold FU; omega) (up2 o 0 0 0) ⟨fun _ _ => rfl, fun s hs => absurd hs (Nat.not_lt_zero s)⟩
    have hp : 1 ≤ 2 ^ n := Nat.one_le_two_pow
    obtain ⟨v, v1, v2, v3, v4⟩ := r1.2 (2 ^ n - 1) (by omega)
    have hm1 : nI (2 ^ n) - 1 = nI (2 ^ n - 1) := by
      have := nI_pred (2 ^ n - 1)
      rw [show 2 ^ n - 1 + 1 = 2 ^ n by omega] at this
      exact this
    have hmod : (letb (1 <<< ((up2 o 0 0 0 0 1) &&& 31)) (fun x_5 => it3 (f_Mo_split_L30 (nI L)) FU x_5 0 (up2 o 0 0 0))) = if v ≤ 6 then some (nI v, gm) else some (-1, gm) := by
      simp only [letb]
      rw [hsh]
      refine r2.trans ?_
      unfold f_Mo_split_X149
      simp only [letb]
      rw [hm1, gb_t (inb_of (show 2 ^ n - 1 < 64 by omega) (by decide)), gb_t (inb_of (show 2 ^ n - 1 < 64 by omega) (by decide)), cl_nI (by omega), v1]
      by_cases hv : v ≤ 6
      · rw [if_pos (show nI v ≤ 6 from (nI_leI (b := 6) (by omega) (by omega)).mpr hv), if_pos hv]
      · rw [if_neg (show ¬ nI v ≤ 6 from fun q => hv ((nI_leI (b := 6) (by omega) (by omega)).mp q)), if_neg hv]
    rw [hmod]
    have hI : ∀ g, (∀ k, k ≠ 4 → k ≠ 5 → g k = gGo k) → INV g gFo gPk qPk gSk gAi gSh gJo gm := fun g hg => INV_go (INV_k (h.thr 0) (fun k h1 h2 => r1.1 k h2)) hg
    have hth : gm 0 0 = 0 := by rw [r1.1 0 (by decide)]; rfl
    rcases lf_l (gGo := gGo) (w := w) hn hL (fun z hz => by have := (hgr1 z hz).2.2.2; omega) (fun z hz => (hgr1 z hz).1) hc FU 0 (Nat.zero_le _) (by unfold FU; omega) with ⟨⟨z, z1, z2⟩, e⟩ | ⟨hw, e⟩
    · have hv : ¬ v < 99 := fun q => by
        have := Pt_fit z1 (by omega) (v3 q) (all_bit ⟨n, by omega⟩ ⟨z, by omega⟩ z1)
        omega
      rw [if_neg (by omega)]
      refine Or.inr ⟨-1, gGo, gm, ?_, rfl, hth, hI gGo (fun _ _ _ => rfl)⟩
      exact (congrArg (fun x => xc2 x (fun r_1 gGo_2 => some (.inl (r_1, gGo_2)))) e).trans rfl
    · obtain ⟨c, l, g', e1, e2, e3⟩ := lc_l (gGo := gGo) (w := w) hn hL (fun z hz => ⟨(hgr1 z hz).2.2.1, hw z (Nat.zero_le _) hz⟩) (fun z hz => (hgr1 z hz).1) hc FU 1 (Nat.le_refl _) hp (by unfold FU; omega) (up2 (up2 gGo 4 0 0) 5 0 (nI L)) ⟨fun k h4 h5 => (up2_n h5).trans (up2_n h4), fun s hs => ⟨0, L, by
          have : s = 0 := by omega
          subst this; rw [up2_n (by decide), up2_at]; simp; rfl, by
          have : s = 0 := by omega
          subst this; rw [up2_at]; simp, Or.inl ⟨by omega, rfl, rfl⟩⟩⟩
      obtain ⟨p1, p2, p3, p4⟩ := Cm_Pt e2
      have c6 := cn_6 ⟨2 ^ n - 1, by omega⟩
      simp only at c6
      have hvc : v ≤ c := v4 c p1
      have hcv : c ≤ v := p4 v (v3 (by omega))
      have hveq : v = c := by omega
      rw [if_pos (by omega)]
      refine Or.inr ⟨nI v, g', gm, ?_, rfl, hth, hI g' e1⟩
      have e' : it1 (f_Go_leastCrates_L17 gGo (nI L)) FU 0 = some (.inl (nI c, g')) := by
        refine e.trans (Eq.trans ?_ e3)
        unfold f_Go_leastCrates_X43
        simp only [letb]
        rw [show up2 (up2 gGo 4 (Int32.toNatClampNeg 0) 0) 5 (Int32.toNatClampNeg 0) (nI L) 0 5 = nI n from hc, sh_1 hn]
        rfl
      rw [hveq]
      exact (congrArg (fun x => xc2 x (fun r_1 gGo_2 => some (.inl (r_1, gGo_2)))) e').trans rfl
