/-- how many numbers there are for the ways of the objects below i -/
def pw (S : Nat) : Nat → Nat
  | 0 => 1
  | i + 1 => if S.testBit i then 6 * pw S i else pw S i
def cn (S : Nat) : Nat → Nat
  | 0 => 0
  | i + 1 => if S.testBit i then cn S i + 1 else cn S i
theorem pw_s (S i : Nat) : pw S (i + 1) = if S.testBit i then 6 * pw S i else pw S i := rfl
theorem cn_s (S i : Nat) : cn S (i + 1) = if S.testBit i then cn S i + 1 else cn S i := rfl
/-- the ways that a number stands for -/
def dd (S : Nat) : Nat → Nat → Nat → Nat
  | 0, _ => fun _ => 0
  | i + 1, left => if S.testBit i then (fun z => if z = i then left % 6 else dd S i (left / 6) z) else dd S i left
theorem dd_t {S i left : Nat} (h : S.testBit i = true) : dd S (i + 1) left = fun z => if z = i then left % 6 else dd S i (left / 6) z := by
  show (if S.testBit i then _ else _) = _
  rw [if_pos h]
theorem dd_f {S i left : Nat} (h : S.testBit i = false) : dd S (i + 1) left = dd S i left := by
  show (if S.testBit i then _ else _) = _
  rw [h]; rfl
theorem dd_lt {S : Nat} : ∀ (i left z : Nat), dd S i left z < 6
  | 0, left, z => by show 0 < 6; omega
  | i + 1, left, z => by
    cases h : S.testBit i
    · rw [dd_f h]; exact dd_lt i left z
    · rw [dd_t h]
      simp only
      split
      · omega
      · exact dd_lt i _ z
theorem dd_enc {S : Nat} : ∀ (i left : Nat), left < pw S i → enc S (dd S i left) i = left
  | 0, left, h => by
    have : pw S 0 = 1 := rfl
    show 0 = left
    omega
  | i + 1, left, h => by
    rw [pw_s] at h
    rw [enc_s]
    cases hm : S.testBit i
    · rw [hm] at h
      simp only [Bool.false_eq_true, if_false] at h ⊢
      rw [dd_f hm]
      exact dd_enc i left h
    · rw [hm] at h
      simp only [if_true] at h ⊢
      rw [dd_t hm]
      simp only [if_true]
      have e : enc S (fun z => if z = i then left % 6 else dd S i (left / 6) z) i = enc S (dd S i (left / 6)) i := enc_congr fun z hz _ => by
        have : ¬ z = i := by omega
        simp [this]
      rw [e, dd_enc i (left / 6) (by omega)]
      omega
theorem enc_bd {S : Nat} {W : Nat → Nat} : ∀ {i : Nat}, (∀ z, z < i → S.testBit z = true → W z < 6) → enc S W i < pw S i
  | 0, _ => by show 0 < 1; omega
  | i + 1, h => by
    have ih := enc_bd (S := S) (W := W) (i := i) (fun z hz hm => h z (by omega) hm)
    rw [enc_s, pw_s]
    by_cases hm : S.testBit i = true
    · rw [if_pos hm, if_pos hm]
      have := h i (by omega) hm
      omega
    · rw [if_neg hm, if_neg hm]
      exact ih
theorem pw_bd {S : Nat} : ∀ (i : Nat), pw S i ≤ 6 ^ i
  | 0 => Nat.le_refl _
  | i + 1 => by
    have ih := pw_bd (S := S) i
    rw [pw_s, Nat.pow_succ]
    split <;> omega
def Kt (o g : St) : Prop := ∀ k, k ≠ 10 → g k = o k
def vI (i : Nat) : Int32 := if i = 0 then -1 else nI (i - 1)
theorem vI_s (i : Nat) : vI (i + 1) = nI i := rfl
theorem vI_dec (i : Nat) : nI i + (-1) = vI i := by
  cases i with
  | zero => rfl
  | succ i => exact pk_m1 i
theorem tn_l {S : Nat} (hS : S < 64) {o : St} : ∀ (m i : Nat), i ≤ 6 → i < m → ∀ (left : Nat) (g : St), left < 2 ^ 31 → Kt o g → ∃ g', it3 (f_Mo_turn_L5 (nI S)) m (nI left) (vI i) g = some g' ∧ Kt o g' ∧ (∀ z, i ≤ z → g' 10 z = g 10 z) ∧ (∀ z, z < i → g' 10 z = if S.testBit z then nI (dd S i left z) else -1) := by
  intro m
  induction m with
  | zero => intro i h1 h2; omega
  | succ m ih =>
    intro i h1 h2 left g hl hK
    rw [it3_s, f_Mo_turn_L5]
    cases i with
    | zero =>
      rw [if_pos (show vI 0 < 0 by decide)]
      exact ⟨g, rfl, hK, fun z _ => rfl, fun z hz => absurd hz (Nat.not_lt_zero z)⟩
    | succ i =>
      have hi6 : i < 6 := by omega
      have hin : inb (nI i) 6 = true := inb_of hi6 (by decide)
      rw [vI_s, if_neg (nI_pos (show i < 2 ^ 31 by omega)), mo_isIn hS hi6, xv1_s]
      unfold f_Mo_turn_J33 f_Mo_turn_J51
      rw [mo_isIn hS hi6]
      simp only [letb, gb_t hin, cl_nI (show i < 2 ^ 31 by omega), xv1_s, vI_dec]
      cases hm : S.testBit i
      · simp only [Bool.false_eq_true, if_false, if_true]
        obtain ⟨g', e1, e2, e3, e4⟩ := ih i (by omega) (by omega) left (up2 g 10 i (-1)) hl (fun k hk => (up2_n hk).trans (hK k hk))
        refine ⟨g', e1, e2, fun z hz => ?_, fun z hz => ?_⟩
        · rw [e3 z (by omega), up2_at]
          have : ¬ z = i := by omega
          simp [this]
        · rw [dd_f hm]
          by_cases hzi : z = i
          · subst hzi
            rw [e3 z (Nat.le_refl z), up2_at, hm]
            simp
          · exact e4 z (by omega)
      · have hq : nI left - nI left / 6 * 6 = nI (left % 6) := pk_rem (d := 6) hl (by omega) (by omega)
        have hd : nI left / 6 = nI (left / 6) := pk_div (d := 6) hl (by omega) (by omega)
        simp only [if_true, n10, if_false]
        rw [hq, hd]
        obtain ⟨g', e1, e2, e3, e4⟩ := ih i (by omega) (by omega) (left / 6) (up2 g 10 i (nI (left % 6))) (by omega) (fun k hk => (up2_n hk).trans (hK k hk))
        refine ⟨g', e1, e2, fun z hz => ?_, fun z hz => ?_⟩
        · rw [e3 z (by omega), up2_at]
          have : ¬ z = i := by omega
          simp [this]
        · rw [dd_t hm]
          by_cases hzi : z = i
          · subst hzi
            rw [e3 z (Nat.le_refl z), up2_at, hm]
            simp
          · rw [e4 z (by omega)]
            simp [hzi]
theorem turn_ok {S : Nat} (hS : S < 64) {o : St} (n : Nat) (hn : n < 2 ^ 31) {g : St} (hK : Kt o g) : ∃ g', f_Mo_turn g (nI S) (nI n) = some g' ∧ Kt o g' ∧ (∀ z, z < 6 → g' 10 z = if S.testBit z then nI (dd S 6 n z) else -1) := by
  obtain ⟨g', e1, e2, e3, e4⟩ := tn_l hS (o := o) FU 6 (Nat.le_refl _) (by unfold FU; omega) n g hn hK
  exact ⟨g', e1, e2, e4⟩
/-- the reference's goods as numbers -/
def Mds (o : St) (S : Nat) (sz wk : Nat → Nat) : Prop := ∀ z, z < 6 → S.testBit z = true → (∀ k, k < 3 → o 1 (3 * z + k) = nI (sz (3 * z + k)) ∧ 1 ≤ sz (3 * z + k) ∧ sz (3 * z + k) ≤ 200) ∧ (∀ v, v < 6 → o 3 (6 * z + v) = if (wk z).testBit v then 1 else 0)
theorem st_l {S : Nat} (hS : S < 64) {g : St} {sz wk W : Nat → Nat} (hM : Mds g S sz wk) (hW : ∀ z, z < 6 → S.testBit z = true → W z < 6) (h10 : ∀ z, z < 6 → g 10 z = if S.testBit z then nI (W z) else -1) : ∀ (m i : Nat), i ≤ 6 → 6 < i + m → ∀ (good : Int32), (good = 1 ∧ ∀ z, z < i → S.testBit z = true → (wk z).testBit (W z) = false) ∨ (good = 0 ∧ ∃ z, z < 6 ∧ S.testBit z = true ∧ (wk z).testBit (W z) = true) →
    (Alw S wk W ∧ it2 (f_Mo_stands_L4 g (nI S)) m good (nI i) = some 1) ∨ (¬ Alw S wk W ∧ it2 (f_Mo_stands_L4 g (nI S)) m good (nI i) = some 0) := by
  intro m
  induction m with
  | zero => intro i h1 h2; omega
  | succ m ih =>
    intro i h1 h2 good hgd
    rw [it2_s, f_Mo_stands_L4]
    by_cases hi : i = 6
    · subst hi
      rw [if_pos (show (6 : Int32) ≤ nI 6 by decide)]
      rcases hgd with ⟨rfl, hz⟩ | ⟨rfl, z, z1, z2, z3⟩
      · exact Or.inl ⟨fun z hz1 hm => ⟨hW z hz1 hm, hz z hz1 hm⟩, rfl⟩
      · exact Or.inr ⟨fun q => (by have := (q z z1 z2).2; rw [z3] at this; cases this), rfl⟩
    · have hi6 : i < 6 := by omega
      rw [if_neg (show ¬ (6 : Int32) ≤ nI i from nI_ge (b := 6) hi6 (by decide))]
      unfold f_Mo_stands_J41 f_Mo_stands_J45 f_Mo_stands_J46
      simp only [letb, nIp1]
      rcases hgd with ⟨rfl, hz⟩ | ⟨rfl, z, z1, z2, z3⟩
      · rw [if_neg n10, mo_isIn hS hi6, xv1_s]
        cases hm : S.testBit i
        · rw [if_pos (show (if false = true then (1 : Int32) else 0) = 0 by decide)]
          refine ih (i + 1) (by omega) (by omega) 1 (Or.inl ⟨rfl, fun z hz1 hm1 => ?_⟩)
          by_cases hzi : z = i
          · subst hzi; rw [hm] at hm1; cases hm1
          · exact hz z (by omega) hm1
        · rw [if_neg (show ¬ (if true = true then (1 : Int32) else 0) = 0 by decide), gb_t (inb_of hi6 (by decide)), cl_nI (show i < 2 ^ 31 by omega), h10 i hi6, hm, if_pos rfl, nI6, nI_add]
          have w6 := hW i hi6 hm
          rw [gb_t (inb_of (show 6 * i + W i < 36 by omega) (by decide)), cl_nI (show 6 * i + W i < 2 ^ 31 by omega), (hM i hi6 hm).2 _ w6]
          cases hb : (wk i).testBit (W i)
          · rw [if_pos (show (if false = true then (1 : Int32) else 0) = 0 by decide)]
            refine ih (i + 1) (by omega) (by omega) 1 (Or.inl ⟨rfl, fun z hz1 hm1 => ?_⟩)
            by_cases hzi : z = i
            · subst hzi; exact hb
            · exact hz z (by omega) hm1
          · rw [if_neg (show ¬ (if true = true then (1 : Int32) else 0) = 0 by decide)]
            exact ih (i + 1) (by omega) (by omega) 0 (Or.inr ⟨rfl, i, hi6, hm, hb⟩)
      · rw [if_pos rfl]
        exact ih (i + 1) (by omega) (by omega) 0 (Or.inr ⟨rfl, z, z1, z2, z3⟩)
theorem ln_l {S gp : Nat} (hS : S < 64) {g : St} {sz wk W : Nat → Nat} (hM : Mds g S sz wk) (hW : ∀ z, z < 6 → S.testBit z = true → W z < 6) (h10 : ∀ z, z < 6 → g 10 z = if S.testBit z then nI (W z) else -1) : ∀ (m i : Nat), i ≤ 6 → 6 < i + m → it2 (f_Mo_lengthOf_L5 g (nI S) (nI gp)) m (nI (Lsum S gp sz W i)) (nI i) = some (nI (Lsum S gp sz W 6)) := by
  intro m
  induction m with
  | zero => intro i h1 h2; omega
  | succ m ih =>
    intro i h1 h2
    rw [it2_s, f_Mo_lengthOf_L5]
    by_cases hi : i = 6
    · subst hi
      rw [if_pos (show (6 : Int32) ≤ nI 6 by decide)]
      rfl
    · have hi6 : i < 6 := by omega
      rw [if_neg (show ¬ (6 : Int32) ≤ nI i from nI_ge (b := 6) hi6 (by decide)), mo_isIn hS hi6, xv1_s]
      unfold f_Mo_lengthOf_J43
      simp only [letb, nIp1]
      have := ih (i + 1) (by omega) (by omega)
      rw [Lsum_s] at this
      cases hm : S.testBit i
      · rw [hm] at this
        rw [if_pos (show (if false = true then (1 : Int32) else 0) = 0 by decide)]
        exact this
      · rw [hm, if_pos rfl] at this
        have w6 := hW i hi6 hm
        have a0 := axi_lt ⟨W i, w6⟩ ⟨0, by decide⟩
        simp only at a0
        rw [if_neg (show ¬ (if true = true then (1 : Int32) else 0) = 0 by decide), gb_t (inb_of hi6 (by decide)), cl_nI (show i < 2 ^ 31 by omega), h10 i hi6, hm, if_pos rfl, show f_Mo_along g (nI i) (nI (W i)) 0 = some (g 1 (3 * i + axi (W i) 0)) from along_ok (a := 0) hi6 w6 (by decide), xv1_s, ((hM i hi6 hm).1 _ a0).1, nI_add, nI_add]
        exact this
theorem wd_l {S gp a : Nat} (ha : a < 3) (hS : S < 64) {g : St} {sz wk W : Nat → Nat} (hM : Mds g S sz wk) (hW : ∀ z, z < 6 → S.testBit z = true → W z < 6) (h10 : ∀ z, z < 6 → g 10 z = if S.testBit z then nI (W z) else -1) : ∀ (m i : Nat), i ≤ 6 → 6 < i + m → it2 (f_Mo_widest_L6 g (nI S) (nI a) (nI gp)) m (nI (Wmax S sz a W i)) (nI i) = some (nI (Wmax S sz a W 6 + 2 * gp)) := by
  have hbd : ∀ i, i ≤ 6 → Wmax S sz a W i ≤ 200 := fun i hi => Wmax_le fun z hz hm => by
    have a0 := axi_lt ⟨W z, hW z (by omega) hm⟩ ⟨a, ha⟩
    exact ((hM z (by omega) hm).1 _ a0).2.2
  intro m
  induction m with
  | zero => intro i h1 h2; omega
  | succ m ih =>
    intro i h1 h2
    rw [it2_s, f_Mo_widest_L6]
    by_cases hi : i = 6
    · subst hi
      rw [if_pos (show (6 : Int32) ≤ nI 6 by decide)]
      unfold f_Mo_widest_X64
      rw [nI2, nI_add]
    · have hi6 : i < 6 := by omega
      rw [if_neg (show ¬ (6 : Int32) ≤ nI i from nI_ge (b := 6) hi6 (by decide)), mo_isIn hS hi6, xv1_s]
      unfold f_Mo_widest_J40 f_Mo_widest_J56
      simp only [letb, nIp1]
      have := ih (i + 1) (by omega) (by omega)
      have b1 := hbd i (by omega)
      rw [Wmax_s] at this
      cases hm : S.testBit i
      · rw [hm] at this
        rw [if_pos (show (if false = true then (1 : Int32) else 0) = 0 by decide), if_pos (nI_pos' (by omega))]
        exact this
      · rw [hm, if_pos rfl] at this
        have w6 := hW i hi6 hm
        have a0 := axi_lt ⟨W i, w6⟩ ⟨a, ha⟩
        simp only at a0
        obtain ⟨s1, s2, s3⟩ := (hM i hi6 hm).1 _ a0
        rw [if_neg (show ¬ (if true = true then (1 : Int32) else 0) = 0 by decide), gb_t (inb_of hi6 (by decide)), cl_nI (show i < 2 ^ 31 by omega), h10 i hi6, hm, if_pos rfl, along_ok hi6 w6 ha, xv1_s, s1]
        by_cases hc : sz (3 * i + axi (W i) a) ≤ Wmax S sz a W i
        · rw [if_pos (nI_le hc (by omega))]
          rw [Nat.max_eq_left hc] at this
          exact this
        · rw [if_neg (nI_ge (by omega) (by omega))]
          rw [Nat.max_eq_right (by omega)] at this
          exact this
