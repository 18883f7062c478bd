theorem Mds_k {o g : St} {S : Nat} {sz wk : Nat → Nat} (hM : Mds o S sz wk) (hK : Kt o g) : Mds g S sz wk := fun z hz hm => by
  obtain ⟨a, b⟩ := hM z hz hm
  exact ⟨fun k hk => by rw [hK 1 (by decide)]; exact a k hk, fun v hv => by rw [hK 3 (by decide)]; exact b v hv⟩
/-- what the reference has found among the numbers below n -/
def Im (S gp : Nat) (sz wk : Nat → Nat) (n : Nat) (least : Int64) (best : Int32) : Prop := (least = -1 ∧ ∀ j, j < n → ¬ Alw S wk (dd S 6 j)) ∨ (∃ b, b < n ∧ best = nI b ∧ Alw S wk (dd S 6 b) ∧ least = lN (prodW S gp sz (dd S 6 b)) ∧ ∀ j, j < n → Alw S wk (dd S 6 j) → prodW S gp sz (dd S 6 b) < prodW S gp sz (dd S 6 j) ∨ (prodW S gp sz (dd S 6 b) = prodW S gp sz (dd S 6 j) ∧ b ≤ j))
theorem prodW_bd {S gp : Nat} {sz wk W : Nat → Nat} {g : St} (hgp : gp ≤ 20) (hM : Mds g S sz wk) (hW : ∀ z, z < 6 → S.testBit z = true → W z < 6) : Lsum S gp sz W 6 ≤ 1340 ∧ Wmax S sz 1 W 6 ≤ 200 ∧ Wmax S sz 2 W 6 ≤ 200 ∧ prodW S gp sz W ≤ 1340 * 240 * 240 := by
  have hs : ∀ a, a < 3 → ∀ z, z < 6 → S.testBit z = true → sz (3 * z + axi (W z) a) ≤ 200 := fun a ha z hz hm => by
    have a0 := axi_lt ⟨W z, hW z hz hm⟩ ⟨a, ha⟩
    exact ((hM z hz hm).1 _ a0).2.2
  have h1 : Lsum S gp sz W 6 ≤ 1340 := by
    have := Lsum_bd (S := S) (sz := sz) (W := W) hgp (hs 0 (by decide)) (n := 6) (by omega)
    omega
  have h2 : Wmax S sz 1 W 6 ≤ 200 := Wmax_le (hs 1 (by decide))
  have h3 : Wmax S sz 2 W 6 ≤ 200 := Wmax_le (hs 2 (by decide))
  exact ⟨h1, h2, h3, Nat.mul_le_mul (Nat.mul_le_mul h1 (by omega)) (by omega)⟩
theorem lg_neg {x : Nat} (h : x < 2 ^ 63) : ¬ lg_cmp (lN x) 0 < 0 := by
  rw [lg_cmp_lt, Int64.lt_iff_toInt_lt, pk_lT h, show (0 : Int64).toInt = 0 from rfl]
  omega
theorem pm_l {S gp many : Nat} (hS : S < 64) (hgp : gp ≤ 20) {o : St} {sz wk : Nat → Nat} (hM : Mds o S sz wk) (hall : pw S 6 ≤ 46656) : ∀ (m n : Nat), n ≤ pw S 6 → pw S 6 < n + m → ∀ (least : Int64) (best : Int32) (g : St), Kt o g → Im S gp sz wk n least best →
    ∃ (least' : Int64) (best' : Int32) (g' : St), Kt o g' ∧ Im S gp sz wk (pw S 6) least' best' ∧ it6 (f_Mo_pack_L118 (nI S) (nI gp)) m (nI (pw S 6)) (nI many) least best (nI n) g = f_Mo_pack_X220 (nI S) (nI gp) (nI (pw S 6)) (nI many) least' best' (nI (pw S 6)) g' := by
  intro m
  induction m with
  | zero => intro n h1 h2; omega
  | succ m ih =>
    intro n h1 h2 least best g hK hI
    rw [it6_s, f_Mo_pack_L118]
    by_cases hn : n = pw S 6
    · rw [hn, if_pos (nI_le (Nat.le_refl _) (by omega))]
      exact ⟨least, best, g, hK, hn ▸ hI, rfl⟩
    · rw [if_neg (nI_ge (by omega) (by omega))]
      obtain ⟨g1, e1, e2, e3⟩ := turn_ok hS (o := o) n (by omega) hK
      rw [e1, xv1_s]
      have hM1 := Mds_k hM e2
      have hW : ∀ z, z < 6 → S.testBit z = true → dd S 6 n z < 6 := fun z _ _ => dd_lt 6 n z
      unfold f_Mo_pack_J181 f_Mo_pack_J188 f_Mo_pack_J205 f_Mo_pack_J212 f_Mo_pack_J214
      simp only [letb, nIp1]
      rcases st_l hS hM1 hW e3 FU 0 (Nat.zero_le _) (by unfold FU; omega) 1 (Or.inl ⟨rfl, fun z hz => absurd hz (Nat.not_lt_zero z)⟩) with ⟨ha, hs⟩ | ⟨ha, hs⟩
      · have hs' : f_Mo_stands g1 (nI S) = some 1 := hs
        have hl : f_Mo_lengthOf g1 (nI S) (nI gp) = some (nI (Lsum S gp sz (dd S 6 n) 6)) := ln_l hS hM1 hW e3 FU 0 (Nat.zero_le _) (by unfold FU; omega)
        have hw1 : f_Mo_widest g1 (nI S) 1 (nI gp) = some (nI (Wmax S sz 1 (dd S 6 n) 6 + 2 * gp)) := wd_l (a := 1) (by decide) hS hM1 hW e3 FU 0 (Nat.zero_le _) (by unfold FU; omega)
        have hw2 : f_Mo_widest g1 (nI S) 2 (nI gp) = some (nI (Wmax S sz 2 (dd S 6 n) 6 + 2 * gp)) := wd_l (a := 2) (by decide) hS hM1 hW e3 FU 0 (Nat.zero_le _) (by unfold FU; omega)
        obtain ⟨b1, b2, b3, b4⟩ := prodW_bd hgp hM1 hW
        have hprod : (nI (Lsum S gp sz (dd S 6 n) 6)).toInt64 * (nI (Wmax S sz 1 (dd S 6 n) 6 + 2 * gp)).toInt64 * (nI (Wmax S sz 2 (dd S 6 n) 6 + 2 * gp)).toInt64 = lN (prodW S gp sz (dd S 6 n)) := by
          rw [nI_l (by omega), nI_l (by omega), nI_l (by omega), lN_mul, lN_mul]
          rfl
        rw [hs', xv1_s, if_neg n10, hl, hw1, hw2, xv1_s, xv1_s, xv1_s, hprod]
        rcases hI with ⟨k1, k2⟩ | ⟨b, k1, k2, k3, k4, k5⟩
        · have hneg : lg_cmp least 0 < 0 := by rw [k1]; decide
          simp only [if_pos hneg]
          refine ih (n + 1) (by omega) (by omega) _ _ g1 e2 (Or.inr ⟨n, by omega, rfl, ha, rfl, fun j hj hja => ?_⟩)
          by_cases hjn : j = n
          · subst hjn; exact Or.inr ⟨rfl, Nat.le_refl _⟩
          · exact absurd hja (k2 j (by omega))
        · have hW2 : ∀ z, z < 6 → S.testBit z = true → dd S 6 b z < 6 := fun z _ _ => dd_lt 6 b z
          obtain ⟨-, -, -, c4⟩ := prodW_bd hgp hM1 hW2
          have hnn : ¬ lg_cmp least 0 < 0 := by rw [k4]; exact lg_neg (by omega)
          simp only [if_neg hnn]
          by_cases hc : 0 ≤ lg_cmp (lN (prodW S gp sz (dd S 6 n))) least
          · simp only [if_pos hc]
            refine ih (n + 1) (by omega) (by omega) _ _ g1 e2 (Or.inr ⟨b, by omega, k2, k3, k4, fun j hj hja => ?_⟩)
            by_cases hjn : j = n
            · subst hjn
              rw [lg_cmp_ge, k4, pk_lLE (by omega) (by omega)] at hc
              omega
            · exact k5 j (by omega) hja
          · simp only [if_neg hc]
            rw [cmp_ge, k4, pk_lLT (by omega) (by omega)] at hc
            refine ih (n + 1) (by omega) (by omega) _ _ g1 e2 (Or.inr ⟨n, by omega, rfl, ha, rfl, fun j hj hja => ?_⟩)
            by_cases hjn : j = n
            · subst hjn; exact Or.inr ⟨rfl, Nat.le_refl _⟩
            · have := k5 j (by omega) hja
              omega
      · have hs' : f_Mo_stands g1 (nI S) = some 0 := hs
        rw [hs', xv1_s, if_pos rfl]
        refine ih (n + 1) (by omega) (by omega) _ _ g1 e2 ?_
        rcases hI with ⟨k1, k2⟩ | ⟨b, k1, k2, k3, k4, k5⟩
        · refine Or.inl ⟨k1, fun j hj hja => ?_⟩
          by_cases hjn : j = n
          · subst hjn; exact ha hja
          · exact k2 j (by omega) hja
        · refine Or.inr ⟨b, by omega, k2, k3, k4, fun j hj hja => ?_⟩
          by_cases hjn : j = n
          · subst hjn; exact absurd hja ha
          · exact k5 j (by omega) hja
/-- every way of standing is one of the numbers -/
theorem Im_opt {S gp : Nat} {sz wk : Nat → Nat} {least : Int64} {best : Int32} (h : Im S gp sz wk (pw S 6) least best) : (least = -1 ∧ ¬ ∃ W, Alw S wk W) ∨ (∃ b, b < pw S 6 ∧ best = nI b ∧ Opt S gp sz wk (dd S 6 b) ∧ least = lN (prodW S gp sz (dd S 6 b))) := by
  have key : ∀ W, Alw S wk W → ∃ j, j < pw S 6 ∧ j = enc S W 6 ∧ ∀ z, z < 6 → S.testBit z = true → dd S 6 j z = W z := by
    intro W hW
    have hb : enc S W 6 < pw S 6 := enc_bd fun z hz hm => (hW z hz hm).1
    exact ⟨enc S W 6, hb, rfl, enc_inj (n := 6) (fun z hz hm => ⟨dd_lt 6 _ z, (hW z hz hm).1⟩) (dd_enc 6 _ hb)⟩
  rcases h with ⟨k1, k2⟩ | ⟨b, k1, k2, k3, k4, k5⟩
  · refine Or.inl ⟨k1, fun ⟨W, hW⟩ => ?_⟩
    obtain ⟨j, j1, j2, j3⟩ := key W hW
    exact k2 j j1 (fun z hz hm => by rw [j3 z hz hm]; exact hW z hz hm)
  · refine Or.inr ⟨b, k1, k2, ⟨k3, fun W hW => ?_⟩, k4⟩
    obtain ⟨j, j1, j2, j3⟩ := key W hW
    have hp : prodW S gp sz (dd S 6 j) = prodW S gp sz W := by
      unfold prodW
      rw [Lsum_congr j3, Wmax_congr j3, Wmax_congr j3]
    have := k5 j j1 (fun z hz hm => by rw [j3 z hz hm]; exact hW z hz hm)
    rw [hp] at this
    rw [dd_enc 6 b k1, ← j2]
    exact this
theorem cp_l {v3 v4 v7 : Int32} {v5 : Int64} : ∀ (m i : Nat), i ≤ 6 → 6 < i + m → ∀ g : St, ∃ g', it6 (f_Mo_pack_L281) m v3 v4 v5 v7 (nI i) g = some (v4, g') ∧ (∀ k, k ≠ 9 → g' k = g k) ∧ (∀ z, z < i → g' 9 z = g 9 z) ∧ (∀ z, i ≤ z → z < 6 → g' 9 z = g 10 z) := by
  intro m
  induction m with
  | zero => intro i h1 h2; omega
  | succ m ih =>
    intro i h1 h2 g
    rw [it6_s, f_Mo_pack_L281]
    by_cases hi : i = 6
    · subst hi
      rw [if_pos (show (6 : Int32) ≤ nI 6 by decide)]
      exact ⟨g, rfl, fun _ _ => rfl, fun _ _ => rfl, fun z h1 h2 => by omega⟩
    · have hi6 : i < 6 := by omega
      have hin : inb (nI i) 6 = true := inb_of hi6 (by decide)
      rw [if_neg (show ¬ (6 : Int32) ≤ nI i from nI_ge (b := 6) hi6 (by decide))]
      simp only [letb, gb_t hin, cl_nI (show i < 2 ^ 31 by omega), nIp1]
      obtain ⟨g', e1, e2, e3, e4⟩ := ih (i + 1) (by omega) (by omega) (up2 g 9 i (g 10 i))
      refine ⟨g', e1, fun k hk => (e2 k hk).trans (up2_n hk), fun z hz => ?_, fun z hz1 hz2 => ?_⟩
      · rw [e3 z (by omega), up2_at]
        have : ¬ z = i := by omega
        simp [this]
      · by_cases hzi : z = i
        · subst hzi
          rw [e3 z (by omega), up2_at]
          simp
        · rw [e4 z (by omega) hz2]
          rfl
theorem am_l {S gp : Nat} (hS : S < 64) {o : St} : ∀ (m i : Nat), i ≤ 6 → 6 < i + m → it4 (f_Mo_pack_L56 (nI S) (nI gp)) m (nI (pw S i)) (nI (cn S i)) (nI i) o = f_Mo_pack_X107 (nI S) (nI gp) (nI (pw S 6)) (nI (cn S 6)) (nI 6) o := by
  intro m
  induction m with
  | zero => intro i h1 h2; omega
  | succ m ih =>
    intro i h1 h2
    rw [it4_s, f_Mo_pack_L56]
    by_cases hi : i = 6
    · subst hi
      rw [if_pos (show (6 : Int32) ≤ nI 6 by decide)]
    · have hi6 : i < 6 := by omega
      rw [if_neg (show ¬ (6 : Int32) ≤ nI i from nI_ge (b := 6) hi6 (by decide))]
      unfold f_Mo_pack_J80 f_Mo_pack_J99
      rw [mo_isIn hS hi6]
      simp only [letb, nIp1, xv1_s, nI6]
      have := ih (i + 1) (by omega) (by omega)
      rw [pw_s, cn_s] at this
      cases hm : S.testBit i
      · rw [hm] at this
        simp only [Bool.false_eq_true, if_false, if_true] at this ⊢
        exact this
      · rw [hm] at this
        simp only [if_true, n10, if_false] at this ⊢
        exact this
