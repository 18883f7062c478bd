/-- the length, up to object z -/
def Lsum (S gp : Nat) (sz : Nat → Nat) (W : Nat → Nat) : Nat → Nat
  | 0 => gp
  | z + 1 => if S.testBit z then Lsum S gp sz W z + sz (3 * z + axi (W z) 0) + gp else Lsum S gp sz W z
/-- the greatest size along an axis, up to object z -/
def Wmax (S : Nat) (sz : Nat → Nat) (a : Nat) (W : Nat → Nat) : Nat → Nat
  | 0 => 0
  | z + 1 => if S.testBit z then max (Wmax S sz a W z) (sz (3 * z + axi (W z) a)) else Wmax S sz a W z
/-- the ways as one number: the first object's counts most -/
def enc (S : Nat) (W : Nat → Nat) : Nat → Nat
  | 0 => 0
  | z + 1 => if S.testBit z then 6 * enc S W z + W z else enc S W z
def prodW (S gp : Nat) (sz : Nat → Nat) (W : Nat → Nat) : Nat := Lsum S gp sz W 6 * (Wmax S sz 1 W 6 + 2 * gp) * (Wmax S sz 2 W 6 + 2 * gp)
def Alw (S : Nat) (wk : Nat → Nat) (W : Nat → Nat) : Prop := ∀ z, z < 6 → S.testBit z = true → W z < 6 ∧ (wk z).testBit (W z) = false
/-- the crate that is asked for -/
def Opt (S gp : Nat) (sz wk : Nat → Nat) (W : Nat → Nat) : Prop := Alw S wk W ∧ ∀ W', Alw S wk W' → prodW S gp sz W < prodW S gp sz W' ∨ (prodW S gp sz W = prodW S gp sz W' ∧ enc S W 6 ≤ enc S W' 6)
theorem Lsum_s (S gp : Nat) (sz W : Nat → Nat) (z : Nat) : Lsum S gp sz W (z + 1) = if S.testBit z then Lsum S gp sz W z + sz (3 * z + axi (W z) 0) + gp else Lsum S gp sz W z := rfl
theorem Wmax_s (S : Nat) (sz : Nat → Nat) (a : Nat) (W : Nat → Nat) (z : Nat) : Wmax S sz a W (z + 1) = if S.testBit z then max (Wmax S sz a W z) (sz (3 * z + axi (W z) a)) else Wmax S sz a W z := rfl
theorem enc_s (S : Nat) (W : Nat → Nat) (z : Nat) : enc S W (z + 1) = if S.testBit z then 6 * enc S W z + W z else enc S W z := rfl
theorem enc_inj {S : Nat} {W W' : Nat → Nat} : ∀ {n : Nat}, (∀ z, z < n → S.testBit z = true → W z < 6 ∧ W' z < 6) → enc S W n = enc S W' n → ∀ z, z < n → S.testBit z = true → W z = W' z
  | 0, _, _, z, hz, _ => absurd hz (Nat.not_lt_zero z)
  | n + 1, hw, he, z, hz, hm => by
    rw [enc_s, enc_s] at he
    by_cases hn : S.testBit n = true
    · rw [if_pos hn, if_pos hn] at he
      have h6 := hw n (by omega) hn
      by_cases hzn : z = n
      · subst hzn; omega
      · exact enc_inj (n := n) (fun z hz hm => hw z (by omega) hm) (by omega) z (by omega) hm
    · rw [if_neg hn, if_neg hn] at he
      by_cases hzn : z = n
      · subst hzn; exact absurd hm hn
      · exact enc_inj (n := n) (fun z hz hm => hw z (by omega) hm) he z (by omega) hm
theorem Opt_uniq {S gp : Nat} {sz wk W W' : Nat → Nat} (h : Opt S gp sz wk W) (h' : Opt S gp sz wk W') : ∀ z, z < 6 → S.testBit z = true → W z = W' z := by
  have a := h.2 W' h'.1
  have b := h'.2 W h.1
  refine enc_inj (n := 6) (fun z hz hm => ⟨(h.1 z hz hm).1, (h'.1 z hz hm).1⟩) (by omega)
theorem Lsum_le {S gp : Nat} {sz W W' : Nat → Nat} : ∀ {n : Nat}, (∀ z, z < n → S.testBit z = true → sz (3 * z + axi (W z) 0) ≤ sz (3 * z + axi (W' z) 0)) → Lsum S gp sz W n ≤ Lsum S gp sz W' n
  | 0, _ => Nat.le_refl _
  | n + 1, h => by
    rw [Lsum_s, Lsum_s]
    have ih := Lsum_le (gp := gp) (n := n) (fun z hz hm => h z (by omega) hm)
    by_cases hn : S.testBit n = true
    · rw [if_pos hn, if_pos hn]
      have := h n (by omega) hn
      omega
    · rw [if_neg hn, if_neg hn]
      exact ih
/-- equal sums of smaller parts: equal parts -/
theorem Lsum_eq {S gp : Nat} {sz W W' : Nat → Nat} : ∀ {n : Nat}, (∀ z, z < n → S.testBit z = true → sz (3 * z + axi (W z) 0) ≤ sz (3 * z + axi (W' z) 0)) → Lsum S gp sz W n = Lsum S gp sz W' n → ∀ z, z < n → S.testBit z = true → sz (3 * z + axi (W z) 0) = sz (3 * z + axi (W' z) 0)
  | 0, _, _, z, hz, _ => absurd hz (Nat.not_lt_zero z)
  | n + 1, h, he, z, hz, hm => by
    rw [Lsum_s, Lsum_s] at he
    have hle := Lsum_le (S := S) (gp := gp) (sz := sz) (W := W) (W' := W') (n := n) (fun z hz hm => h z (by omega) hm)
    by_cases hn : S.testBit n = true
    · rw [if_pos hn, if_pos hn] at he
      have h0 := h n (by omega) hn
      by_cases hzn : z = n
      · subst hzn; omega
      · exact Lsum_eq (gp := gp) (n := n) (fun z hz hm => h z (by omega) hm) (by omega) z (by omega) hm
    · rw [if_neg hn, if_neg hn] at he
      by_cases hzn : z = n
      · subst hzn; exact absurd hm hn
      · exact Lsum_eq (n := n) (fun z hz hm => h z (by omega) hm) he z (by omega) hm
theorem Lsum_pos {S gp : Nat} {sz W : Nat → Nat} (hs : ∀ z, z < 6 → S.testBit z = true → ∀ k, k < 3 → 1 ≤ sz (3 * z + k)) (hW : ∀ z, z < 6 → S.testBit z = true → W z < 6) : ∀ {n : Nat}, n ≤ 6 → (∃ z, z < n ∧ S.testBit z = true) → 1 ≤ Lsum S gp sz W n
  | 0, _, ⟨z, hz, _⟩ => absurd hz (Nat.not_lt_zero z)
  | n + 1, hn6, ⟨z, hz, hm⟩ => by
    rw [Lsum_s]
    by_cases hn : S.testBit n = true
    · rw [if_pos hn]
      have ha := axi_lt ⟨W n, hW n (by omega) hn⟩ ⟨0, by decide⟩
      have := hs n (by omega) hn _ ha
      simp only at this
      omega
    · rw [if_neg hn]
      have hzn : z ≠ n := fun q => hn (q ▸ hm)
      exact Lsum_pos hs hW (by omega) ⟨z, by omega, hm⟩
theorem Wmax_ge {S : Nat} {sz : Nat → Nat} {a : Nat} {W : Nat → Nat} : ∀ {n z : Nat}, z < n → S.testBit z = true → sz (3 * z + axi (W z) a) ≤ Wmax S sz a W n
  | 0, z, hz, _ => absurd hz (Nat.not_lt_zero z)
  | n + 1, z, hz, hm => by
    rw [Wmax_s]
    by_cases hzn : z = n
    · subst hzn
      rw [if_pos hm]
      exact Nat.le_max_right _ _
    · have ih := Wmax_ge (S := S) (sz := sz) (a := a) (W := W) (n := n) (z := z) (by omega) hm
      by_cases hn : S.testBit n = true
      · rw [if_pos hn]
        exact Nat.le_trans ih (Nat.le_max_left _ _)
      · rw [if_neg hn]
        exact ih
theorem Wmax_le {S : Nat} {sz : Nat → Nat} {a b : Nat} {W : Nat → Nat} : ∀ {n : Nat}, (∀ z, z < n → S.testBit z = true → sz (3 * z + axi (W z) a) ≤ b) → Wmax S sz a W n ≤ b
  | 0, _ => Nat.zero_le _
  | n + 1, h => by
    rw [Wmax_s]
    have ih := Wmax_le (S := S) (sz := sz) (a := a) (W := W) (n := n) (fun z hz hm => h z (by omega) hm)
    by_cases hn : S.testBit n = true
    · rw [if_pos hn]
      exact Nat.max_le.mpr ⟨ih, h n (by omega) hn⟩
    · rw [if_neg hn]
      exact ih
/-- the greatest one is one of them -/
theorem Wmax_at {S : Nat} {sz : Nat → Nat} {a : Nat} {W : Nat → Nat} : ∀ {n : Nat}, (∃ z, z < n ∧ S.testBit z = true) → (∃ z, z < n ∧ S.testBit z = true ∧ Wmax S sz a W n = sz (3 * z + axi (W z) a)) ∨ Wmax S sz a W n = 0
  | 0, ⟨z, hz, _⟩ => absurd hz (Nat.not_lt_zero z)
  | n + 1, hex => by
    rw [Wmax_s]
    by_cases hn : S.testBit n = true
    · rw [if_pos hn]
      by_cases hc : Wmax S sz a W n ≤ sz (3 * n + axi (W n) a)
      · exact Or.inl ⟨n, by omega, hn, Nat.max_eq_right hc⟩
      · rw [Nat.max_eq_left (by omega)]
        by_cases hex2 : ∃ z, z < n ∧ S.testBit z = true
        · rcases Wmax_at (sz := sz) (a := a) (W := W) (n := n) hex2 with ⟨z, h1, h2, h3⟩ | h
          · exact Or.inl ⟨z, by omega, h2, h3⟩
          · exact Or.inr h
        · exfalso
          have : Wmax S sz a W n ≤ 0 := Wmax_le (fun z hz hm => absurd ⟨z, hz, hm⟩ hex2)
          omega
    · rw [if_neg hn]
      obtain ⟨z, hz, hm⟩ := hex
      have hzn : z ≠ n := fun q => hn (q ▸ hm)
      rcases Wmax_at (sz := sz) (a := a) (W := W) (n := n) ⟨z, by omega, hm⟩ with ⟨z, h1, h2, h3⟩ | h
      · exact Or.inl ⟨z, by omega, h2, h3⟩
      · exact Or.inr h
theorem Lsum_congr {S gp : Nat} {sz W W' : Nat → Nat} : ∀ {n : Nat}, (∀ z, z < n → S.testBit z = true → W z = W' z) → Lsum S gp sz W n = Lsum S gp sz W' n
  | 0, _ => rfl
  | n + 1, h => by
    rw [Lsum_s, Lsum_s, Lsum_congr (n := n) (fun z hz hm => h z (by omega) hm)]
    by_cases hn : S.testBit n = true
    · rw [if_pos hn, if_pos hn, h n (by omega) hn]
    · rw [if_neg hn, if_neg hn]
theorem Wmax_congr {S : Nat} {sz : Nat → Nat} {a : Nat} {W W' : Nat → Nat} : ∀ {n : Nat}, (∀ z, z < n → S.testBit z = true → W z = W' z) → Wmax S sz a W n = Wmax S sz a W' n
  | 0, _ => rfl
  | n + 1, h => by
    rw [Wmax_s, Wmax_s, Wmax_congr (n := n) (fun z hz hm => h z (by omega) hm)]
    by_cases hn : S.testBit n = true
    · rw [if_pos hn, if_pos hn, h n (by omega) hn]
    · rw [if_neg hn, if_neg hn]
theorem enc_congr {S : Nat} {W W' : Nat → Nat} : ∀ {n : Nat}, (∀ z, z < n → S.testBit z = true → W z = W' z) → enc S W n = enc S W' n
  | 0, _ => rfl
  | n + 1, h => by
    rw [enc_s, enc_s, enc_congr (n := n) (fun z hz hm => h z (by omega) hm)]
    by_cases hn : S.testBit n = true
    · rw [if_pos hn, if_pos hn, h n (by omega) hn]
    · rw [if_neg hn, if_neg hn]
/-- lower ways, lower number -/
theorem enc_le {S : Nat} {W W' : Nat → Nat} : ∀ {n : Nat}, (∀ z, z < n → S.testBit z = true → W z ≤ W' z) → enc S W n ≤ enc S W' n
  | 0, _ => Nat.le_refl _
  | n + 1, h => by
    rw [enc_s, enc_s]
    have ih := enc_le (S := S) (W := W) (W' := W') (n := n) (fun z hz hm => h z (by omega) hm)
    by_cases hn : S.testBit n = true
    · rw [if_pos hn, if_pos hn]
      have := h n (by omega) hn
      omega
    · rw [if_neg hn, if_neg hn]
      exact ih
/-- the first difference decides -/
theorem enc_lt {S : Nat} {W W' : Nat → Nat} {y : Nat} (hy : S.testBit y = true) (he : ∀ z, z < y → S.testBit z = true → W z = W' z) (hlt : W y < W' y) : ∀ {n : Nat}, y < n → (∀ z, z < n → S.testBit z = true → W z < 6) → enc S W n < enc S W' n
  | 0, h, _ => absurd h (Nat.not_lt_zero y)
  | n + 1, hyn, h6 => by
    rw [enc_s, enc_s]
    by_cases hc : y = n
    · subst hc
      rw [if_pos hy, if_pos hy, enc_congr he]
      omega
    · have ih := enc_lt hy he hlt (n := n) (by omega) (fun z hz hm => h6 z (by omega) hm)
      by_cases hn : S.testBit n = true
      · rw [if_pos hn, if_pos hn]
        have := h6 n (by omega) hn
        omega
      · rw [if_neg hn, if_neg hn]
        exact ih
/-- the ways that keep within a width and a height -/
def Fit (sz wk : Nat → Nat) (w h z v : Nat) : Prop := v < 6 ∧ (wk z).testBit v = false ∧ sz (3 * z + axi v 1) ≤ w ∧ sz (3 * z + axi v 2) ≤ h
/-- the shortest, and of those the lowest -/
def Short (sz wk : Nat → Nat) (w h z v : Nat) : Prop := Fit sz wk w h z v ∧ ∀ v', Fit sz wk w h z v' → sz (3 * z + axi v 0) < sz (3 * z + axi v' 0) ∨ (sz (3 * z + axi v 0) = sz (3 * z + axi v' 0) ∧ v ≤ v')
def Greedy (S : Nat) (sz wk : Nat → Nat) (w h : Nat) (W : Nat → Nat) : Prop := ∀ z, z < 6 → S.testBit z = true → Short sz wk w h z (W z)
def prodB (S gp : Nat) (sz W : Nat → Nat) (w h : Nat) : Nat := Lsum S gp sz W 6 * (w + 2 * gp) * (h + 2 * gp)
theorem Greedy.alw {S : Nat} {sz wk : Nat → Nat} {w h : Nat} {W : Nat → Nat} (g : Greedy S sz wk w h W) : Alw S wk W := fun z hz hm => ⟨(g z hz hm).1.1, (g z hz hm).1.2.1⟩
theorem Greedy.ge {S gp : Nat} {sz wk : Nat → Nat} {w h : Nat} {W : Nat → Nat} (g : Greedy S sz wk w h W) : Wmax S sz 1 W 6 ≤ w ∧ Wmax S sz 2 W 6 ≤ h ∧ prodW S gp sz W ≤ prodB S gp sz W w h := by
  have a : Wmax S sz 1 W 6 ≤ w := Wmax_le fun z hz hm => (g z hz hm).1.2.2.1
  have b : Wmax S sz 2 W 6 ≤ h := Wmax_le fun z hz hm => (g z hz hm).1.2.2.2
  exact ⟨a, b, Nat.mul_le_mul (Nat.mul_le_mul (Nat.le_refl _) (by omega)) (by omega)⟩
/-- at the width and the height of the best crate the greedy ways are its ways -/
theorem Opt_greedy {S gp : Nat} {sz wk W W' : Nat → Nat} (hs : ∀ z, z < 6 → S.testBit z = true → ∀ k, k < 3 → 1 ≤ sz (3 * z + k)) (hS : ∃ z, z < 6 ∧ S.testBit z = true) (ho : Opt S gp sz wk W) (hg : Greedy S sz wk (Wmax S sz 1 W 6) (Wmax S sz 2 W 6) W') : (∀ z, z < 6 → S.testBit z = true → W' z = W z) ∧ prodB S gp sz W' (Wmax S sz 1 W 6) (Wmax S sz 2 W 6) = prodW S gp sz W := by
  have hfit : ∀ z, z < 6 → S.testBit z = true → Fit sz wk (Wmax S sz 1 W 6) (Wmax S sz 2 W 6) z (W z) := fun z hz hm => ⟨(ho.1 z hz hm).1, (ho.1 z hz hm).2, Wmax_ge hz hm, Wmax_ge hz hm⟩
  have hle : ∀ z, z < 6 → S.testBit z = true → sz (3 * z + axi (W' z) 0) ≤ sz (3 * z + axi (W z) 0) := fun z hz hm => by
    rcases (hg z hz hm).2 _ (hfit z hz hm) with h | h <;> omega
  have hL := Lsum_le (gp := gp) hle
  have ⟨hw, hh, hpb⟩ := hg.ge (gp := gp)
  have h2 : prodB S gp sz W' (Wmax S sz 1 W 6) (Wmax S sz 2 W 6) ≤ prodW S gp sz W := Nat.mul_le_mul (Nat.mul_le_mul hL (Nat.le_refl _)) (Nat.le_refl _)
  have h3 := ho.2 W' hg.alw
  have heq : prodB S gp sz W' (Wmax S sz 1 W 6) (Wmax S sz 2 W 6) = prodW S gp sz W := by omega
  obtain ⟨y, hy, hym⟩ := hS
  have pos1 : 0 < Wmax S sz 1 W 6 + 2 * gp := by
    have := Wmax_ge (S := S) (sz := sz) (a := 1) (W := W) hy hym
    have h1 := hs y hy hym _ (axi_lt ⟨W y, (ho.1 y hy hym).1⟩ ⟨1, by decide⟩)
    simp only at h1
    omega
  have pos2 : 0 < Wmax S sz 2 W 6 + 2 * gp := by
    have := Wmax_ge (S := S) (sz := sz) (a := 2) (W := W) hy hym
    have h1 := hs y hy hym _ (axi_lt ⟨W y, (ho.1 y hy hym).1⟩ ⟨2, by decide⟩)
    simp only at h1
    omega
  have hLe : Lsum S gp sz W' 6 = Lsum S gp sz W 6 := by
    unfold prodB prodW at heq
    have e1 := Nat.eq_of_mul_eq_mul_right pos2 heq
    exact Nat.eq_of_mul_eq_mul_right pos1 e1
  have hz := Lsum_eq hle hLe
  have hW' : ∀ z, z < 6 → S.testBit z = true → W' z ≤ W z := fun z hz1 hm => by
    rcases (hg z hz1 hm).2 _ (hfit z hz1 hm) with h | h
    · have := hz z hz1 hm; omega
    · exact h.2
  have henc := enc_le hW'
  have hee : enc S W' 6 = enc S W 6 := by omega
  exact ⟨enc_inj (n := 6) (fun z hz hm => ⟨(hg.alw z hz hm).1, (ho.1 z hz hm).1⟩) hee, heq⟩
