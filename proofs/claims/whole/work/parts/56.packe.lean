/-- the pairs that have been tried when the next is (b, c) -/
def Tp (S E : Nat) (sz : Nat → Nat) (b c : Nat) : Nat → Nat → Prop := fun w v => ∃ i j, i < E ∧ j < E ∧ S.testBit (i / 3) = true ∧ S.testBit (j / 3) = true ∧ w = sz i ∧ v = sz j ∧ (i < b ∨ (i = b ∧ j < c))
theorem Ic_eqv {S gp : Nat} {sz wk : Nat → Nat} {T T' : Nat → Nat → Prop} {g : St} {q : Int64} (hT : ∀ w h, T w h ↔ T' w h) (h : Ic S gp sz wk T g q) : Ic S gp sz wk T' g q := by
  rcases h with ⟨k1, k2⟩ | ⟨W, w1, h1, k1, kw, kh, k2, k3, k4, k5, k6, k7, k8⟩
  · exact Or.inl ⟨k1, fun w h hab => k2 w h ((hT w h).mpr hab)⟩
  · exact Or.inr ⟨W, w1, h1, (hT _ _).mp k1, kw, kh, k2, k3, k4, k5, k6, k7, fun w' h' W' hab => k8 w' h' W' ((hT _ _).mpr hab)⟩
theorem fl_in {gGo : St} {S gp E : Nat} {sz wk : Nat → Nat} (hG : Gds gGo S sz wk) (hS : S < 64) (hgp : gp ≤ 20) (hE : E ≤ 18) (hsz : ∀ i, i < E → gGo 1 i = nI (sz i) ∧ sz i ≤ 200) (kc : Int32 → Int32 → St → Int64 → Option (St × Int64)) {b : Nat} (hb : b < E) : ∀ (m c : Nat), c ≤ E → E < c + m → ∀ (g : St) (q : Int64), g 0 5 = nI S → g 0 6 = nI gp → Ic S gp sz wk (Tp S E sz b c) g q →
    ∃ g' q', (∀ f, g' 0 f = g 0 f) ∧ Ic S gp sz wk (Tp S E sz (b + 1) 0) g' q' ∧ it5 (f_Pk_findLeast_L24 gGo kc) m (nI E) (nI b) (nI c) g q = kc (nI E) (nI (b + 1)) g' q' := by
  intro m
  induction m with
  | zero => intro c h1 h2; omega
  | succ m ih =>
    intro c h1 h2 g q e5 e6 hI
    rw [it5_s, f_Pk_findLeast_L24]
    by_cases hc : c = E
    · subst hc
      rw [if_pos (nI_le (Nat.le_refl _) (by omega))]
      refine ⟨g, q, fun f => rfl, Ic_eqv (fun w h => ?_) hI, by unfold f_Pk_findLeast_X81; simp only [letb, nIp1]⟩
      constructor
      · rintro ⟨i, j, a1, a2, a3, a4, a5, a6, a7⟩
        exact ⟨i, j, a1, a2, a3, a4, a5, a6, by omega⟩
      · rintro ⟨i, j, a1, a2, a3, a4, a5, a6, a7⟩
        exact ⟨i, j, a1, a2, a3, a4, a5, a6, by omega⟩
    · rw [if_neg (nI_ge (by omega) (by omega)), e5, nIdiv3 (by omega), nIdiv3 (by omega), pk_isIn hS (show b / 3 < 6 by omega), pk_isIn hS (show c / 3 < 6 by omega), xv1_s]
      unfold f_Pk_findLeast_J75
      simp only [letb, nIp1]
      have same : ¬ (S.testBit (b / 3) = true ∧ S.testBit (c / 3) = true) → Ic S gp sz wk (Tp S E sz b (c + 1)) g q := by
        intro hno
        refine Ic_eqv (fun w h => ?_) hI
        constructor
        · rintro ⟨i, j, a1, a2, a3, a4, a5, a6, a7⟩
          exact ⟨i, j, a1, a2, a3, a4, a5, a6, by omega⟩
        · rintro ⟨i, j, a1, a2, a3, a4, a5, a6, a7⟩
          refine ⟨i, j, a1, a2, a3, a4, a5, a6, ?_⟩
          by_cases hij : i = b ∧ j = c
          · obtain ⟨rfl, rfl⟩ := hij
            exact absurd ⟨a3, a4⟩ hno
          · omega
      cases hm1 : S.testBit (b / 3)
      · rw [if_pos (show (if false = true then (1 : Int32) else 0) = 0 by decide)]
        exact ih (c + 1) (by omega) (by omega) g q e5 e6 (same (fun z => by rw [hm1] at z; cases z.1))
      · rw [if_neg (show ¬ (if true = true then (1 : Int32) else 0) = 0 by decide), xv1_s]
        cases hm2 : S.testBit (c / 3)
        · rw [if_pos (show (if false = true then (1 : Int32) else 0) = 0 by decide)]
          exact ih (c + 1) (by omega) (by omega) g q e5 e6 (same (fun z => by rw [hm2] at z; cases z.2))
        · rw [if_neg (show ¬ (if true = true then (1 : Int32) else 0) = 0 by decide)]
          obtain ⟨s1, s2⟩ := hsz b hb
          obtain ⟨s3, s4⟩ := hsz c (by omega)
          rw [gb_t (inb_of (show b < 18 by omega) (by decide)), gb_t (inb_of (show c < 18 by omega) (by decide)), cl_nI (show b < 2 ^ 31 by omega), cl_nI (show c < 2 ^ 31 by omega), s1, s3]
          obtain ⟨g', q', t1, t2, t3⟩ := tw_ok hG hS hgp s2 s4 e5 e6 hI
          rw [t1, xv2_s]
          obtain ⟨g'', q'', u1, u2, u3⟩ := ih (c + 1) (by omega) (by omega) g' q' (by rw [t2]; exact e5) (by rw [t2]; exact e6) (Ic_eqv (fun w h => by
            constructor
            · rintro (⟨i, j, a1, a2, a3, a4, a5, a6, a7⟩ | ⟨rfl, rfl⟩)
              · exact ⟨i, j, a1, a2, a3, a4, a5, a6, by omega⟩
              · exact ⟨b, c, hb, by omega, hm1, hm2, rfl, rfl, by omega⟩
            · rintro ⟨i, j, a1, a2, a3, a4, a5, a6, a7⟩
              by_cases hij : i = b ∧ j = c
              · obtain ⟨rfl, rfl⟩ := hij
                exact Or.inr ⟨a5, a6⟩
              · exact Or.inl ⟨i, j, a1, a2, a3, a4, a5, a6, by omega⟩) t3)
          exact ⟨g'', q'', fun f => (u1 f).trans (t2 f), u2, u3⟩
theorem fl_out {gGo : St} {S gp E : Nat} {sz wk : Nat → Nat} (hG : Gds gGo S sz wk) (hS : S < 64) (hgp : gp ≤ 20) (hE : E ≤ 18) (hsz : ∀ i, i < E → gGo 1 i = nI (sz i) ∧ sz i ≤ 200) : ∀ (m b : Nat), b ≤ E → E < b + m → ∀ (g : St) (q : Int64), g 0 5 = nI S → g 0 6 = nI gp → Ic S gp sz wk (Tp S E sz b 0) g q →
    ∃ g' q', (∀ f, g' 0 f = g 0 f) ∧ Ic S gp sz wk (Tp S E sz E 0) g' q' ∧ it4 (f_Pk_findLeast_L16 gGo) m (nI E) (nI b) g q = some (g', q') := by
  intro m
  induction m with
  | zero => intro b h1 h2; omega
  | succ m ih =>
    intro b h1 h2 g q e5 e6 hI
    rw [it4_s, f_Pk_findLeast_L16]
    by_cases hb : b = E
    · subst hb
      rw [if_pos (nI_le (Nat.le_refl _) (by omega))]
      exact ⟨g, q, fun f => rfl, hI, rfl⟩
    · rw [if_neg (nI_ge (by omega) (by omega))]
      obtain ⟨g', q', t1, t2, t3⟩ := fl_in hG hS hgp hE hsz (it4 (f_Pk_findLeast_L16 gGo) m) (b := b) (by omega) FU 0 (Nat.zero_le _) (by unfold FU; omega) g q e5 e6 hI
      have t3' : it5 (f_Pk_findLeast_L24 gGo (it4 (f_Pk_findLeast_L16 gGo) m)) FU (nI E) (nI b) 0 g q = it4 (f_Pk_findLeast_L16 gGo) m (nI E) (nI (b + 1)) g' q' := t3
      rw [t3']
      obtain ⟨g'', q'', u1, u2, u3⟩ := ih (b + 1) (by omega) (by omega) g' q' (by rw [t1]; exact e5) (by rw [t1]; exact e6) t2
      exact ⟨g'', q'', fun f => (u1 f).trans (t1 f), u2, u3⟩
/-- the class finds the crate that is asked for -/
theorem fl_opt {gGo : St} {S gp n : Nat} {sz wk W : Nat → Nat} (hG : Gds gGo S sz wk) (hS : S < 64) (hSn : ∀ z, S.testBit z = true → z < n) (hS0 : ∃ z, z < 6 ∧ S.testBit z = true) (hn : n ≤ 6) (hgp : gp ≤ 20) (hcn : gGo 0 5 = nI n) (hsz : ∀ i, i < 3 * n → gGo 1 i = nI (sz i) ∧ sz i ≤ 200) (ho : Opt S gp sz wk W) {g : St} {q : Int64} (e5 : g 0 5 = nI S) (e6 : g 0 6 = nI gp) :
    ∃ g' q', f_Pk_findLeast g q gGo = some (g', q') ∧ (∀ f, g' 0 f = g 0 f) ∧ (∀ z, z < 6 → g' 2 z = if S.testBit z then nI (W z) else -1) ∧ g' 1 0 = nI (Lsum S gp sz W 6) ∧ g' 1 1 = nI (Wmax S sz 1 W 6 + 2 * gp) ∧ g' 1 2 = nI (Wmax S sz 2 W 6 + 2 * gp) := by
  obtain ⟨g', q', t1, t2, t3⟩ := fl_out hG hS hgp (show 3 * n ≤ 18 by omega) hsz FU 0 (Nat.zero_le _) (by unfold FU; omega) g 9223372036854775807 e5 e6 (Or.inl ⟨rfl, fun w h ⟨i, j, a1, a2, a3, a4, a5, a6, a7⟩ => by omega⟩)
  have hun : f_Pk_findLeast g q gGo = some (g', q') := by
    unfold f_Pk_findLeast
    simp only [letb]
    rw [hcn, nI3']
    exact t3
  have hs1 : ∀ z, z < 6 → S.testBit z = true → ∀ k, k < 3 → 1 ≤ sz (3 * z + k) := fun z hz hm k hk => ((hG z hz hm).1 k hk).2.1
  have hfit : ∀ z, z < 6 → S.testBit z = true → Fit sz wk (Wmax S sz 1 W 6) (Wmax S sz 2 W 6) z (W z) := fun z hz hm => ⟨(ho.1 z hz hm).1, (ho.1 z hz hm).2, Wmax_ge hz hm, Wmax_ge hz hm⟩
  have hex : ∃ W', Greedy S sz wk (Wmax S sz 1 W 6) (Wmax S sz 2 W 6) W' := by
    have : ∀ z, ∃ v, z < 6 → S.testBit z = true → Short sz wk (Wmax S sz 1 W 6) (Wmax S sz 2 W 6) z v := fun z => by
      by_cases hz : z < 6 ∧ S.testBit z = true
      · obtain ⟨v, hv⟩ := short_ex ⟨_, hfit z hz.1 hz.2⟩
        exact ⟨v, fun _ _ => hv⟩
      · exact ⟨0, fun a b => absurd ⟨a, b⟩ hz⟩
    exact ⟨fun z => Classical.choose (this z), fun z hz hm => Classical.choose_spec (this z) hz hm⟩
  obtain ⟨W', hg'⟩ := hex
  obtain ⟨heq, hpb⟩ := Opt_greedy (gp := gp) hs1 hS0 ho hg'
  have wpos : ∀ a, a < 3 → 1 ≤ Wmax S sz a W 6 := fun a ha => by
    obtain ⟨y, hy, hym⟩ := hS0
    have h1 := Wmax_ge (S := S) (sz := sz) (a := a) (W := W) hy hym
    have h2 := hs1 y hy hym _ (axi_lt ⟨W y, (ho.1 y hy hym).1⟩ ⟨a, ha⟩)
    simp only at h2
    omega
  have hT : Tp S (3 * n) sz (3 * n) 0 (Wmax S sz 1 W 6) (Wmax S sz 2 W 6) := by
    have p1 := wpos 1 (by decide)
    have p2 := wpos 2 (by decide)
    rcases Wmax_at (sz := sz) (a := 1) (W := W) hS0 with ⟨z1, b1, b2, b3⟩ | b
    · rcases Wmax_at (sz := sz) (a := 2) (W := W) hS0 with ⟨z2, c1, c2, c3⟩ | c
      · have l1 := hSn z1 b2
        have l2 := hSn z2 c2
        have x1 := axi_lt ⟨W z1, (ho.1 z1 b1 b2).1⟩ ⟨1, by decide⟩
        have x2 := axi_lt ⟨W z2, (ho.1 z2 c1 c2).1⟩ ⟨2, by decide⟩
        simp only at x1 x2
        refine ⟨3 * z1 + axi (W z1) 1, 3 * z2 + axi (W z2) 2, by omega, by omega, ?_, ?_, b3, c3, by omega⟩
        · rw [show (3 * z1 + axi (W z1) 1) / 3 = z1 by omega]; exact b2
        · rw [show (3 * z2 + axi (W z2) 2) / 3 = z2 by omega]; exact c2
      · omega
    · omega
  rcases t2 with ⟨k1, k2⟩ | ⟨W1, w1, h1, k1, kw, kh, k2, k3, k4, k5, k6, k7, k8⟩
  · exact absurd ⟨W', hg'⟩ (k2 _ _ hT)
  · have c := k8 _ _ W' hT hg'
    rw [hpb, enc_congr heq] at c
    obtain ⟨d1, d2, d3⟩ := k2.ge (gp := gp)
    have e := ho.2 W1 k2.alw
    have hpe : prodB S gp sz W1 w1 h1 = prodW S gp sz W := by omega
    have hpw : prodW S gp sz W1 = prodW S gp sz W := by omega
    have hee : enc S W1 6 = enc S W 6 := by omega
    have hW1 := enc_inj (n := 6) (fun z hz hm => ⟨(k2.alw z hz hm).1, (ho.1 z hz hm).1⟩) hee
    have hL := Lsum_congr (gp := gp) (sz := sz) hW1
    have hm1 := Wmax_congr (sz := sz) (a := 1) hW1
    have hm2 := Wmax_congr (sz := sz) (a := 2) hW1
    rw [hm1] at d1
    rw [hm2] at d2
    have lpos : 1 ≤ Lsum S gp sz W 6 := Lsum_pos hs1 (fun z hz hm => (ho.1 z hz hm).1) (Nat.le_refl 6) hS0
    have p1 := wpos 1 (by decide)
    have p2 := wpos 2 (by decide)
    have hmul : (w1 + 2 * gp) * (h1 + 2 * gp) = (Wmax S sz 1 W 6 + 2 * gp) * (Wmax S sz 2 W 6 + 2 * gp) := by
      unfold prodB prodW at hpe
      rw [hL, Nat.mul_assoc, Nat.mul_assoc] at hpe
      exact Nat.eq_of_mul_eq_mul_left (by omega) hpe
    have hw : w1 = Wmax S sz 1 W 6 := by
      rcases Nat.lt_or_ge (Wmax S sz 1 W 6) w1 with hlt | hge
      · exfalso
        have x1 : (Wmax S sz 1 W 6 + 2 * gp) * (Wmax S sz 2 W 6 + 2 * gp) < (w1 + 2 * gp) * (Wmax S sz 2 W 6 + 2 * gp) := Nat.mul_lt_mul_of_pos_right (by omega) (by omega)
        have x2 : (w1 + 2 * gp) * (Wmax S sz 2 W 6 + 2 * gp) ≤ (w1 + 2 * gp) * (h1 + 2 * gp) := Nat.mul_le_mul_left _ (by omega)
        omega
      · omega
    have hh : h1 = Wmax S sz 2 W 6 := by
      rw [hw] at hmul
      have := Nat.eq_of_mul_eq_mul_left (show 0 < Wmax S sz 1 W 6 + 2 * gp by omega) hmul
      omega
    refine ⟨g', q', hun, t1, fun z hz => ?_, by rw [k5, hL], by rw [k6, hw], by rw [k7, hh]⟩
    rw [k4 z hz]
    cases hm : S.testBit z
    · rfl
    · rw [if_pos rfl, if_pos rfl, hW1 z hz hm]
