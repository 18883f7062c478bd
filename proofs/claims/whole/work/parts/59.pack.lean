theorem sh_1 {n : Nat} (hn : n ≤ 6) : (1 : Int32) <<< (nI n &&& 31) = nI (2 ^ n) := by
  rcases (show n = 0 ∨ n = 1 ∨ n = 2 ∨ n = 3 ∨ n = 4 ∨ n = 5 ∨ n = 6 by omega) with rfl | rfl | rfl | rfl | rfl | rfl | rfl <;> decide
theorem sh_r {n : Nat} (hn : n ≤ 6) (p : Int32) : p >>> (nI n &&& 31) = 0 ↔ ∃ S : Nat, S < 2 ^ n ∧ p = nI S := by
  have hs : ((nI n &&& 31).toBitVec.smod 32).toNat = n := by
    rcases (show n = 0 ∨ n = 1 ∨ n = 2 ∨ n = 3 ∨ n = 4 ∨ n = 5 ∨ n = 6 by omega) with rfl | rfl | rfl | rfl | rfl | rfl | rfl <;> decide
  have h := pk_shr p (nI n &&& 31) n hs
  rw [i_eq, h, show (0 : Int32).toInt = 0 from rfl, Int.shiftRight_eq_div_pow]
  constructor
  · intro q
    have hp : 0 ≤ p.toInt ∧ p.toInt < ((2 ^ n : Nat) : Int) := by
      rcases (show n = 0 ∨ n = 1 ∨ n = 2 ∨ n = 3 ∨ n = 4 ∨ n = 5 ∨ n = 6 by omega) with rfl | rfl | rfl | rfl | rfl | rfl | rfl <;> simp at q ⊢ <;> omega
    have h0 : ¬ p < 0 := by rw [i_lt, show (0 : Int32).toInt = 0 from rfl]; omega
    obtain ⟨S, hS, rfl⟩ := nI_of h0
    rw [nI_toInt hS] at hp
    exact ⟨S, by omega, rfl⟩
  · rintro ⟨S, hS, rfl⟩
    have h64 : 2 ^ n ≤ 64 := by
      rcases (show n = 0 ∨ n = 1 ∨ n = 2 ∨ n = 3 ∨ n = 4 ∨ n = 5 ∨ n = 6 by omega) with rfl | rfl | rfl | rfl | rfl | rfl | rfl <;> decide
    rw [nI_toInt (by omega)]
    exact Int.ediv_eq_zero_of_lt (by omega) (by omega)
theorem set_m {n : Nat} (hn : n ≤ 6) (p : Int32) : (¬ p < 0 ∧ ¬ (1 : Int32) <<< (nI n &&& 31) ≤ p) ↔ ∃ S : Nat, S < 2 ^ n ∧ p = nI S := by
  have h64 : 2 ^ n ≤ 64 := by
    rcases (show n = 0 ∨ n = 1 ∨ n = 2 ∨ n = 3 ∨ n = 4 ∨ n = 5 ∨ n = 6 by omega) with rfl | rfl | rfl | rfl | rfl | rfl | rfl <;> decide
  rw [sh_1 hn]
  constructor
  · rintro ⟨h0, h1⟩
    obtain ⟨S, hS, rfl⟩ := nI_of h0
    refine ⟨S, ?_, rfl⟩
    have := Int32.not_le.mp h1
    rw [nI_ltI hS (by omega)] at this
    exact this
  · rintro ⟨S, hS, rfl⟩
    exact ⟨nI_pos (by omega), nI_ge hS (by omega)⟩
theorem bit_lt {S n z : Nat} (hS : S < 2 ^ n) (h : S.testBit z = true) : z < n := by
  rcases Nat.lt_or_ge z n with q | q
  · exact q
  · rw [Nat.testBit_lt_two_pow (Nat.lt_of_lt_of_le hS (Nat.pow_le_pow_right (by omega) q))] at h
    cases h
theorem bc_tab : ∀ S : Fin 64, f_In_bitCount (nI S.val) = some (nI (cn S.val 6)) := by decide +kernel
theorem wk_all : ∀ b : Fin 64, b.val ≠ 63 → ∃ v : Fin 6, b.val.testBit v.val = false := by decide +kernel
theorem wk_63 : ∀ v : Fin 6, (63 : Nat).testBit v.val = true := by decide
theorem S_ex : ∀ S : Fin 64, S.val ≠ 0 → ∃ z : Fin 6, S.val.testBit z.val = true := by decide +kernel
theorem ps_l {gPk gGo : St} {qPk : Int64} {S n : Nat} {p2 : Int32} {sz wk : Nat → Nat} (hG : Gds gGo S sz wk) (hS : S < 64) (hn : n ≤ 6) (hc : gGo 0 5 = nI n) : ∀ (m i : Nat), i ≤ n → n < i + m →
    ((∃ z, z < n ∧ S.testBit z = true ∧ wk z = 63) ∧ it1 (f_Pk_packSet_L43 gPk qPk gGo (nI S) p2) m (nI i) = some (.inl (-1, gPk, qPk))) ∨ ((∀ z, i ≤ z → z < n → S.testBit z = true → wk z ≠ 63) ∧ it1 (f_Pk_packSet_L43 gPk qPk gGo (nI S) p2) m (nI i) = f_Pk_packSet_X78 gPk qPk gGo (nI S) p2 (nI n)) := by
  intro m
  induction m with
  | zero => intro i h1 h2; omega
  | succ m ih =>
    intro i h1 h2
    rw [it1_s, f_Pk_packSet_L43, hc]
    by_cases hi : i = n
    · subst hi
      rw [if_pos (nI_le (Nat.le_refl _) (by omega))]
      exact Or.inr ⟨fun z h1 h2 => by omega, rfl⟩
    · have hi6 : i < 6 := by omega
      rw [if_neg (nI_ge (by omega) (by omega)), pk_isIn hS hi6, xv1_s]
      unfold f_Pk_packSet_J72
      simp only [letb, nIp1]
      have ih' := ih (i + 1) (by omega) (by omega)
      cases hm : S.testBit i
      · rw [if_pos (show (if false = true then (1 : Int32) else 0) = 0 by decide)]
        rcases ih' with h | ⟨h1, h2⟩
        · exact Or.inl h
        · refine Or.inr ⟨fun z hz1 hz2 hzm => ?_, h2⟩
          by_cases hzi : z = i
          · subst hzi; rw [hm] at hzm; cases hzm
          · exact h1 z (by omega) hz2 hzm
      · obtain ⟨-, g2, g3⟩ := hG i hi6 hm
        rw [if_neg (show ¬ (if true = true then (1 : Int32) else 0) = 0 by decide)]
        have hmay : f_Go_mayStandAnyhow gGo (nI i) = some (if wk i = 63 then 0 else 1) := by
          unfold f_Go_mayStandAnyhow
          rw [gb_t (inb_of hi6 (by decide)), cl_nI (show i < 2 ^ 31 by omega), g2]
          simp only [letb]
          by_cases hw : wk i = 63
          · rw [if_pos (show nI (wk i) = 63 by rw [hw]; rfl), if_pos hw]
          · rw [if_neg (show ¬ nI (wk i) = 63 from fun q => hw ((nI_eq (b := 63) (by omega) (by omega)).mp q)), if_neg hw]
        rw [hmay, xv1_s]
        by_cases hw : wk i = 63
        · rw [if_pos hw, if_pos rfl]
          exact Or.inl ⟨⟨i, by omega, hm, hw⟩, rfl⟩
        · rw [if_neg hw, if_neg n10]
          rcases ih' with h | ⟨h1, h2⟩
          · exact Or.inl h
          · refine Or.inr ⟨fun z hz1 hz2 hzm => ?_, h2⟩
            by_cases hzi : z = i
            · subst hzi; exact hw
            · exact h1 z (by omega) hz2 hzm
theorem pr_l {gGo : St} {S gp : Nat} {sz wk W : Nat → Nat} (hG : Gds gGo S sz wk) (hW : ∀ z, z < 6 → S.testBit z = true → W z < 6) {way : Nat → Int32} (hway : ∀ z, z < 6 → way z = if S.testBit z then nI (W z) else -1) : ∀ (m i : Nat), i ≤ 6 → 6 < i + m → ∀ g : St, g 0 6 = nI gp → (∀ z, z < 6 → g 2 z = way z) →
    ∃ g', it3 (f_Pk_placeInRow_L7 gGo) m (nI (begs (fun z => (gGo 1 (3 * z + ax0 (way z).toNatClampNeg)).toNatClampNeg) way gp i)) (nI i) g = some g' ∧ (∀ k, k ≠ 3 → g' k = g k) ∧ (∀ z, z < i → g' 3 z = g 3 z) ∧ (∀ z, i ≤ z → z < 6 → g' 3 z = if way z = -1 then -1 else nI (begs (fun z => (gGo 1 (3 * z + ax0 (way z).toNatClampNeg)).toNatClampNeg) way gp z)) := by
  intro m
  induction m with
  | zero => intro i h1 h2; omega
  | succ m ih =>
    intro i h1 h2 g e6 e2
    rw [it3_s, f_Pk_placeInRow_L7]
    by_cases hi : i = 6
    · subst hi
      rw [if_pos (show (6 : Int32) ≤ nI 6 by decide)]
      exact ⟨g, rfl, fun _ _ => rfl, fun _ _ => rfl, fun z h1 h2 => by omega⟩
    · have hi6 : i < 6 := by omega
      have hin : inb (nI i) 6 = true := inb_of hi6 (by decide)
      rw [if_neg (show ¬ (6 : Int32) ≤ nI i from nI_ge (b := 6) hi6 (by decide))]
      unfold f_Pk_placeInRow_J60
      simp only [letb, gb_t hin, cl_nI (show i < 2 ^ 31 by omega), nIp1]
      rw [e2 i hi6]
      by_cases hm : way i = -1
      · rw [if_pos hm]
        obtain ⟨g', k1, k2, k3, k4⟩ := ih (i + 1) (by omega) (by omega) (up2 g 3 i (-1)) e6 e2
        have hb : begs (fun z => (gGo 1 (3 * z + ax0 (way z).toNatClampNeg)).toNatClampNeg) way gp (i + 1) = begs (fun z => (gGo 1 (3 * z + ax0 (way z).toNatClampNeg)).toNatClampNeg) way gp i := if_pos hm
        rw [hb] at k1
        refine ⟨g', k1, fun k hk => (k2 k hk).trans (up2_n hk), fun z hz => ?_, fun z hz1 hz2 => ?_⟩
        · rw [k3 z (by omega), up2_at]
          have : ¬ z = i := by omega
          simp [this]
        · by_cases hzi : z = i
          · subst hzi
            rw [k3 z (by omega), up2_at, if_pos hm]
            simp
          · exact k4 z (by omega) hz2
      · rw [if_neg hm]
        have hmem : S.testBit i = true := by
          cases hc : S.testBit i
          · exfalso; apply hm; rw [hway i hi6, hc]; rfl
          · rfl
        have hwi : way i = nI (W i) := by rw [hway i hi6, hmem]; rfl
        have w6 := hW i hi6 hmem
        have a0 : axi (W i) 0 = ax0 (W i) := axi_0 ⟨W i, w6⟩
        obtain ⟨s1, s2, s3⟩ := (hG i hi6 hmem).1 _ (ax0_lt (W i))
        have e2' : up2 g 3 i (nI (begs (fun z => (gGo 1 (3 * z + ax0 (way z).toNatClampNeg)).toNatClampNeg) way gp i)) 2 i = nI (W i) := by
          rw [← hwi]; exact e2 i hi6
        rw [e2', show f_Go_sizeOf gGo (nI i) (nI (W i)) 0 = some (gGo 1 (3 * i + axi (W i) 0)) from sizeOf_ok (a := 0) hi6 w6 (by decide), xv1_s, a0, s1, show up2 g 3 i (nI (begs (fun z => (gGo 1 (3 * z + ax0 (way z).toNatClampNeg)).toNatClampNeg) way gp i)) 0 6 = nI gp from e6, nI_add, nI_add]
        have hb : begs (fun z => (gGo 1 (3 * z + ax0 (way z).toNatClampNeg)).toNatClampNeg) way gp (i + 1) = begs (fun z => (gGo 1 (3 * z + ax0 (way z).toNatClampNeg)).toNatClampNeg) way gp i + (sz (3 * i + ax0 (W i)) + gp) := by
          refine (if_neg hm).trans ?_
          simp only [hwi, cl_nI (show W i < 2 ^ 31 by omega), s1, cl_nI (show sz (3 * i + ax0 (W i)) < 2 ^ 31 by omega)]
          omega
        obtain ⟨g', k1, k2, k3, k4⟩ := ih (i + 1) (by omega) (by omega) (up2 g 3 i (nI (begs (fun z => (gGo 1 (3 * z + ax0 (way z).toNatClampNeg)).toNatClampNeg) way gp i))) e6 e2
        rw [hb] at k1
        refine ⟨g', k1, fun k hk => (k2 k hk).trans (up2_n hk), fun z hz => ?_, fun z hz1 hz2 => ?_⟩
        · rw [k3 z (by omega), up2_at]
          have : ¬ z = i := by omega
          simp [this]
        · by_cases hzi : z = i
          · subst hzi
            rw [k3 z (by omega), up2_at, if_neg hm]
            simp
          · exact k4 z (by omega) hz2
theorem INV_k {gGo gFo gPk : St} {qPk : Int64} {gSk gAi gSh gJo o g : St} (h : INV gGo gFo gPk qPk gSk gAi gSh gJo o) (hk : ∀ k, k ≠ 10 → k ≠ 11 → g k = o k) : INV gGo gFo gPk qPk gSk gAi gSh gJo g := by
  unfold INV
  rw [hk 0 (by decide) (by decide), hk 1 (by decide) (by decide), hk 2 (by decide) (by decide), hk 3 (by decide) (by decide), hk 4 (by decide) (by decide), hk 5 (by decide) (by decide), hk 6 (by decide) (by decide), hk 7 (by decide) (by decide), hk 8 (by decide) (by decide), hk 9 (by decide) (by decide), hk 12 (by decide) (by decide), hk 13 (by decide) (by decide), hk 14 (by decide) (by decide), hk 15 (by decide) (by decide)]
  exact h
theorem pk_refuse {gPk gGo : St} {qPk : Int64} {p1 p2 : Int32} {n : Nat} (hn : n ≤ 6) (hc : gGo 0 5 = nI n) {o : St} (h3 : o 0 1 = nI n) : (∃ S : Nat, S < 2 ^ n ∧ p1 = nI S ∧ (S ≠ 0 ∧ ¬ p2 < 0 ∧ p2 ≤ 20)) ∨ (f_Pk_packSet gPk qPk gGo p1 p2 = some (.inr xIOE) ∧ ∃ b, f_Mo_pack o p1 p2 = some (b, up2 o 0 0 1)) ∨ (f_Pk_packSet gPk qPk gGo p1 p2 = some (.inr xIAE) ∧ ∃ b, f_Mo_pack o p1 p2 = some (b, up2 o 0 0 2)) := by
  unfold f_Pk_packSet f_Mo_pack f_Mo_pack_J19 f_Mo_pack_J20 f_Mo_pack_J38
  rw [hc, h3]
  by_cases hv : ∃ S : Nat, S < 2 ^ n ∧ p1 = nI S
  · have hm := (set_m hn p1).mpr hv
    rw [if_pos ((sh_r hn p1).mpr hv), if_neg hm.1, if_neg hm.2]
    obtain ⟨S, hS, rfl⟩ := hv
    have h64 : 2 ^ n ≤ 64 := by
      rcases (show n = 0 ∨ n = 1 ∨ n = 2 ∨ n = 3 ∨ n = 4 ∨ n = 5 ∨ n = 6 by omega) with rfl | rfl | rfl | rfl | rfl | rfl | rfl <;> decide
    by_cases h0 : S = 0
    · subst h0
      rw [if_pos (show nI 0 = 0 from rfl), if_pos (show nI 0 = 0 from rfl)]
      exact Or.inr (Or.inr ⟨rfl, 0, rfl⟩)
    · have hz : ¬ nI S = 0 := nI_ne0 (by omega) (by omega)
      rw [if_neg hz, if_neg hz]
      by_cases hg : ¬ p2 < 0 ∧ p2 ≤ 20
      · exact Or.inl ⟨S, hS, rfl, h0, hg.1, hg.2⟩
      · rw [rRange_no hg, wi_no hg]
        exact Or.inr (Or.inr ⟨rfl, 0, rfl⟩)
  · rw [if_neg (fun q => hv ((sh_r hn p1).mp q))]
    refine Or.inr (Or.inl ⟨rfl, ?_⟩)
    have key : ∃ b, (if p1 = 0 then f_Mo_pack_J39 o p1 p2 0 0 else (xv1 (f_Mo_within p2 0 20) (fun r_52 => if r_52 = 0 then f_Mo_pack_J39 o p1 p2 0 0 else (f_Mo_pack_J39 o p1 p2 0 1)))) = some (b, up2 o 0 0 1) := by
      by_cases hz : p1 = 0
      · rw [if_pos hz]; exact ⟨0, rfl⟩
      · rw [if_neg hz]
        rcases wi_cases p2 0 20 with e | e <;> rw [e] <;> exact ⟨0, rfl⟩
    by_cases h0 : p1 < 0
    · rw [if_pos h0]; exact key
    · rw [if_neg h0]
      by_cases h1 : (1 : Int32) <<< (nI n &&& 31) ≤ p1
      · rw [if_pos h1]; exact key
      · exact absurd ((set_m hn p1).mp ⟨h0, h1⟩) hv
