theorem nIdiv3 {a : Nat} (h : a < 2 ^ 31) : nI a / 3 = nI (a / 3) := pk_div (d := 3) h (by omega) (by omega)
def Kp (g0 g : St) : Prop := ∀ k, k ≠ 4 → g k = g0 k
theorem Lsum_bd {S gp : Nat} {sz W : Nat → Nat} (hgp : gp ≤ 20) (hs : ∀ z, z < 6 → S.testBit z = true → sz (3 * z + axi (W z) 0) ≤ 200) : ∀ {n : Nat}, n ≤ 6 → Lsum S gp sz W n ≤ gp + n * 220
  | 0, _ => by show gp ≤ gp + 0 * 220; omega
  | n + 1, hn => by
    have ih := Lsum_bd (gp := gp) hgp hs (n := n) (by omega)
    rw [Lsum_s]
    by_cases hm : S.testBit n = true
    · rw [if_pos hm]
      have := hs n (by omega) hm
      omega
    · rw [if_neg hm]
      omega
theorem tw_l {gGo : St} {S gp : Nat} {sz wk : Nat → Nat} (hG : Gds gGo S sz wk) (hS : S < 64) {w h : Nat} (hw : w ≤ 200) (hh : h ≤ 200) {g0 : St} (e5 : g0 0 5 = nI S) (e6 : g0 0 6 = nI gp) (q : Int64) : ∀ (m i : Nat), i ≤ 6 → 6 < i + m → ∀ (gPk : St) (W : Nat → Nat), Kp g0 gPk → (∀ z, z < i → gPk 4 z = if S.testBit z then nI (W z) else -1) → (∀ z, z < i → S.testBit z = true → Short sz wk w h z (W z)) →
    (∃ g', Kp g0 g' ∧ it3 (f_Pk_tryWithin_L9 q gGo (nI w) (nI h)) m (nI (Lsum S gp sz W i)) (nI i) gPk = some (g', q) ∧ ¬ ∃ W, Greedy S sz wk w h W) ∨
    (∃ g' W', Kp g0 g' ∧ Greedy S sz wk w h W' ∧ (∀ z, z < 6 → g' 4 z = if S.testBit z then nI (W' z) else -1) ∧ it3 (f_Pk_tryWithin_L9 q gGo (nI w) (nI h)) m (nI (Lsum S gp sz W i)) (nI i) gPk = f_Pk_tryWithin_X87 q (nI w) (nI h) (nI (Lsum S gp sz W' 6)) (nI 6) g') := by
  intro m
  induction m with
  | zero => intro i h1 h2; omega
  | succ m ih =>
    intro i h1 h2 gPk W hK h4 hsh
    by_cases hi : i = 6
    · subst hi
      refine Or.inr ⟨gPk, W, hK, hsh, h4, ?_⟩
      rw [it3_s, f_Pk_tryWithin_L9, if_pos (show (6 : Int32) ≤ nI 6 by decide)]
    · have hi6 : i < 6 := by omega
      have hin : inb (nI i) 6 = true := inb_of hi6 (by decide)
      have hcl : (nI i).toNatClampNeg = i := cl_nI (by omega)
      rw [it3_s, f_Pk_tryWithin_L9, if_neg (show ¬ (6 : Int32) ≤ nI i from nI_ge (b := 6) hi6 (by decide)), gb_t hin, hcl]
      simp only [letb]
      have k5 : (up2 gPk 4 i (-1)) 0 5 = nI S := by
        show gPk 0 5 = nI S
        rw [hK 0 (by decide), e5]
      have hK1 : Kp g0 (up2 gPk 4 i (-1)) := fun k hk => (up2_n hk).trans (hK k hk)
      rw [k5, pk_isIn hS hi6, xv1_s]
      unfold f_Pk_tryWithin_J81
      simp only [letb, nIp1]
      cases hc : S.testBit i
      · rw [if_pos (show (if false = true then (1 : Int32) else 0) = 0 by decide)]
        have hL : Lsum S gp sz W (i + 1) = Lsum S gp sz W i := by rw [Lsum_s, hc]; rfl
        rw [← hL]
        refine ih (i + 1) (by omega) (by omega) _ W hK1 (fun z hz => ?_) (fun z hz hm => ?_)
        · rw [up2_at]
          by_cases hzi : z = i
          · subst hzi; simp [hc]
          · simp [hzi]
            exact h4 z (by omega)
        · by_cases hzi : z = i
          · subst hzi; rw [hc] at hm; cases hm
          · exact hsh z (by omega) hm
      · rw [if_neg (show ¬ (if true = true then (1 : Int32) else 0) = 0 by decide)]
        rcases short_ok hG (w := w) (h := h) hi6 hc (by omega) (by omega) with ⟨v, hv, he⟩ | ⟨hno, he⟩
        · have hv6 := hv.1.1
          rw [he, xv1_s, if_neg (nI_m1 (show v < 2 ^ 31 by omega)), gb_t hin]
          obtain ⟨g1, -, -⟩ := hG i hi6 hc
          have a0 := axi_lt ⟨v, hv6⟩ ⟨0, by decide⟩
          simp only at a0
          rw [show f_Go_sizeOf gGo (nI i) (nI v) 0 = some (gGo 1 (3 * i + axi v 0)) from sizeOf_ok (a := 0) hi6 hv6 (by decide), xv1_s, (g1 _ a0).1]
          have k6 : (up2 (up2 gPk 4 i (-1)) 4 i (nI v)) 0 6 = nI gp := by
            show gPk 0 6 = nI gp
            rw [hK 0 (by decide), e6]
          rw [k6]
          have hcg : ∀ z, z < i → S.testBit z = true → W z = (fun y => if y = i then v else W y) z := fun z hz _ => by
            have : ¬ z = i := by omega
            simp [this]
          have hL : nI (Lsum S gp sz W i) + (nI (sz (3 * i + axi v 0)) + nI gp) = nI (Lsum S gp sz (fun y => if y = i then v else W y) (i + 1)) := by
            rw [Lsum_s, hc, if_pos rfl, ← Lsum_congr hcg, nI_add, nI_add]
            simp [Nat.add_assoc]
          rw [hL]
          refine ih (i + 1) (by omega) (by omega) _ (fun y => if y = i then v else W y) (fun k hk => (up2_n hk).trans (hK1 k hk)) (fun z hz => ?_) (fun z hz hm => ?_)
          · rw [up2_at, up2_at]
            by_cases hzi : z = i
            · subst hzi; simp [hc]
            · simp [hzi]
              exact h4 z (by omega)
          · by_cases hzi : z = i
            · subst hzi; simp; exact hv
            · simp [hzi]; exact hsh z (by omega) hm
        · rw [he, xv1_s, if_pos rfl]
          exact Or.inl ⟨_, hK1, rfl, fun ⟨W', hW'⟩ => hno _ (hW' i hi6 hc).1⟩
theorem tl_l {g : St} {S : Nat} {W W' : Nat → Nat} (h6 : ∀ z, z < 6 → S.testBit z = true → W z < 6 ∧ W' z < 6) (h4 : ∀ z, z < 6 → g 4 z = if S.testBit z then nI (W' z) else -1) (h2 : ∀ z, z < 6 → g 2 z = if S.testBit z then nI (W z) else -1) : ∀ (m i : Nat), i ≤ 6 → 6 < i + m → (∀ z, z < i → S.testBit z = true → W' z = W z) → it1 (f_Pk_triedIsLower_L2 g) m (nI i) = some (if enc S W' 6 < enc S W 6 then 1 else 0) := by
  intro m
  induction m with
  | zero => intro i h1 h2; omega
  | succ m ih =>
    intro i h1 h2' heq
    rw [it1_s, f_Pk_triedIsLower_L2]
    by_cases hi : i = 6
    · subst hi
      rw [if_pos (show (6 : Int32) ≤ nI 6 by decide), enc_congr heq, if_neg (Nat.lt_irrefl _)]
      rfl
    · have hi6 : i < 6 := by omega
      have hin : inb (nI i) 6 = true := inb_of hi6 (by decide)
      rw [if_neg (show ¬ (6 : Int32) ≤ nI i from nI_ge (b := 6) hi6 (by decide))]
      simp only [letb, gb_t hin, cl_nI (show i < 2 ^ 31 by omega), nIp1]
      rw [h4 i hi6, h2 i hi6]
      cases hc : S.testBit i
      · rw [if_pos (show (if false = true then nI (W' i) else -1) = (if false = true then nI (W i) else -1) from rfl)]
        refine ih (i + 1) (by omega) (by omega) (fun z hz hm => ?_)
        by_cases hzi : z = i
        · subst hzi; rw [hc] at hm; cases hm
        · exact heq z (by omega) hm
      · simp only [if_true]
        have w6 := h6 i hi6 hc
        by_cases he : W' i = W i
        · rw [if_pos (show nI (W' i) = nI (W i) by rw [he])]
          refine ih (i + 1) (by omega) (by omega) (fun z hz hm => ?_)
          by_cases hzi : z = i
          · subst hzi; exact he
          · exact heq z (by omega) hm
        · rw [if_neg (fun q => he ((nI_eq (by omega) (by omega)).mp q))]
          by_cases hlt : W' i < W i
          · rw [if_neg (nI_ge hlt (by omega)), if_pos (enc_lt hc heq hlt hi6 (fun z hz hm => (h6 z hz hm).2))]
          · have hgt := enc_lt hc (fun z hz hm => (heq z hz hm).symm) (show W i < W' i by omega) hi6 (fun z hz hm => (h6 z hz hm).1)
            rw [if_pos (nI_le (by omega) (by omega)), if_neg (by omega)]
/-- what the class has found among the pairs T -/
def Ic (S gp : Nat) (sz wk : Nat → Nat) (T : Nat → Nat → Prop) (g : St) (q : Int64) : Prop := (q = 9223372036854775807 ∧ ∀ w h, T w h → ¬ ∃ W, Greedy S sz wk w h W) ∨
  (∃ (W : Nat → Nat) (w h : Nat), T w h ∧ w ≤ 200 ∧ h ≤ 200 ∧ Greedy S sz wk w h W ∧ q = lN (prodB S gp sz W w h) ∧ (∀ z, z < 6 → g 2 z = if S.testBit z then nI (W z) else -1) ∧ g 1 0 = nI (Lsum S gp sz W 6) ∧ g 1 1 = nI (w + 2 * gp) ∧ g 1 2 = nI (h + 2 * gp) ∧
    ∀ w' h' W', T w' h' → Greedy S sz wk w' h' W' → prodB S gp sz W w h < prodB S gp sz W' w' h' ∨ (prodB S gp sz W w h = prodB S gp sz W' w' h' ∧ enc S W 6 ≤ enc S W' 6))
theorem Short_uniq {sz wk : Nat → Nat} {w h z v v' : Nat} (a : Short sz wk w h z v) (b : Short sz wk w h z v') : v = v' := by
  have h1 := a.2 v' b.1
  have h2 := b.2 v a.1
  omega
theorem Greedy_enc {S : Nat} {sz wk : Nat → Nat} {w h : Nat} {W W' : Nat → Nat} (a : Greedy S sz wk w h W) (b : Greedy S sz wk w h W') : ∀ z, z < 6 → S.testBit z = true → W z = W' z := fun z hz hm => Short_uniq (a z hz hm) (b z hz hm)
theorem prodB_congr {S gp : Nat} {sz W W' : Nat → Nat} {w h : Nat} (e : ∀ z, z < 6 → S.testBit z = true → W z = W' z) : prodB S gp sz W w h = prodB S gp sz W' w h := by
  unfold prodB
  rw [Lsum_congr e]
theorem nI2 (n : Nat) : (2 : Int32) * nI n = nI (2 * n) := pk_mul 2 n
theorem keep_ok {g : St} {q : Int64} {a b d : Int32} : ∃ g', f_Pk_keep g q a b d = some g' ∧ (∀ f, g' 0 f = g 0 f) ∧ g' 1 0 = a ∧ g' 1 1 = b ∧ g' 1 2 = d ∧ (∀ z, z < 6 → g' 2 z = g 4 z) := by
  refine ⟨_, rfl, fun f => rfl, rfl, rfl, rfl, fun z hz => ?_⟩
  show va_cpy (g 4) (g 2) 0 0 6 z = g 4 z
  rw [pk_cpy_in (by omega) (by omega)]
  congr 1
  omega
theorem tw_ok {gGo : St} {S gp : Nat} {sz wk : Nat → Nat} (hG : Gds gGo S sz wk) (hS : S < 64) (hgp : gp ≤ 20) {w h : Nat} (hw : w ≤ 200) (hh : h ≤ 200) {T : Nat → Nat → Prop} {g0 : St} {q : Int64} (e5 : g0 0 5 = nI S) (e6 : g0 0 6 = nI gp) (hI : Ic S gp sz wk T g0 q) :
    ∃ g' q', f_Pk_tryWithin g0 q gGo (nI w) (nI h) = some (g', q') ∧ (∀ f, g' 0 f = g0 0 f) ∧ Ic S gp sz wk (fun a b => T a b ∨ (a = w ∧ b = h)) g' q' := by
  have hun : f_Pk_tryWithin g0 q gGo (nI w) (nI h) = it3 (f_Pk_tryWithin_L9 q gGo (nI w) (nI h)) FU (nI (Lsum S gp sz (fun _ => 0) 0)) (nI 0) g0 := by
    unfold f_Pk_tryWithin
    simp only [letb]
    rw [e6]
    rfl
  rw [hun]
  rcases tw_l (gp := gp) hG hS hw hh e5 e6 q FU 0 (Nat.zero_le _) (by unfold FU; omega) g0 (fun _ => 0) (fun _ _ => rfl) (fun z hz => absurd hz (Nat.not_lt_zero z)) (fun z hz => absurd hz (Nat.not_lt_zero z)) with ⟨g', hK, he, hno⟩ | ⟨g', W', hK, hgr, h4, he⟩
  · refine ⟨g', q, he, fun f => by rw [hK 0 (by decide)], ?_⟩
    rcases hI with ⟨k1, k2⟩ | ⟨W, w1, h1, k1, kw, kh, k2, k3, k4, k5, k6, k7, k8⟩
    · refine Or.inl ⟨k1, fun a b hab => ?_⟩
      rcases hab with hab | ⟨rfl, rfl⟩
      · exact k2 a b hab
      · exact hno
    · refine Or.inr ⟨W, w1, h1, Or.inl k1, kw, kh, k2, k3, fun z hz => by rw [hK 2 (by decide)]; exact k4 z hz, by rw [hK 1 (by decide)]; exact k5, by rw [hK 1 (by decide)]; exact k6, by rw [hK 1 (by decide)]; exact k7, fun w' h' W'' hab hg => ?_⟩
      rcases hab with hab | ⟨rfl, rfl⟩
      · exact k8 w' h' W'' hab hg
      · exact absurd ⟨W'', hg⟩ hno
  · rw [he]
    have hsz : ∀ z, z < 6 → S.testBit z = true → ∀ v, v < 6 → sz (3 * z + axi v 0) ≤ 200 := fun z hz hm v hv => by
      have a0 := axi_lt ⟨v, hv⟩ ⟨0, by decide⟩
      exact ((hG z hz hm).1 _ a0).2.2
    have hLb : Lsum S gp sz W' 6 ≤ 1340 := by
      have := Lsum_bd (S := S) (sz := sz) (W := W') hgp (fun z hz hm => hsz z hz hm _ (hgr z hz hm).1.1) (n := 6) (by omega)
      omega
    have hpb : prodB S gp sz W' w h ≤ 1340 * 240 * 240 := Nat.mul_le_mul (Nat.mul_le_mul hLb (by omega)) (by omega)
    have k6 : g' 0 6 = nI gp := by rw [hK 0 (by decide), e6]
    have hprod : (nI (Lsum S gp sz W' 6)).toInt64 * (nI (w + 2 * gp)).toInt64 * (nI (h + 2 * gp)).toInt64 = lN (prodB S gp sz W' w h) := by
      rw [nI_l (by omega), nI_l (by omega), nI_l (by omega), lN_mul, lN_mul]
      rfl
    unfold f_Pk_tryWithin_X87 f_Pk_tryWithin_J139
    simp only [letb]
    rw [k6, nI2, nI_add, nI_add, hprod]
    obtain ⟨gk, hk1, hk2, hk3, hk4, hk5, hk6⟩ := keep_ok (g := g') (q := lN (prodB S gp sz W' w h)) (a := nI (Lsum S gp sz W' 6)) (b := nI (w + 2 * gp)) (d := nI (h + 2 * gp))
    have take : (∀ w1 h1 W1, T w1 h1 → Greedy S sz wk w1 h1 W1 → prodB S gp sz W' w h < prodB S gp sz W1 w1 h1 ∨ (prodB S gp sz W' w h = prodB S gp sz W1 w1 h1 ∧ enc S W' 6 ≤ enc S W1 6)) → ∃ g'' q'', (xv1 (f_Pk_keep g' (lN (prodB S gp sz W' w h)) (nI (Lsum S gp sz W' 6)) (nI (w + 2 * gp)) (nI (h + 2 * gp))) (fun gPk_4 => some (gPk_4, lN (prodB S gp sz W' w h)))) = some (g'', q'') ∧ (∀ f, g'' 0 f = g0 0 f) ∧ Ic S gp sz wk (fun a b => T a b ∨ (a = w ∧ b = h)) g'' q'' := by
      intro hmin
      refine ⟨gk, lN (prodB S gp sz W' w h), by rw [hk1]; rfl, fun f => by rw [hk2, hK 0 (by decide)], Or.inr ⟨W', w, h, Or.inr ⟨rfl, rfl⟩, hw, hh, hgr, rfl, fun z hz => by rw [hk6 z hz]; exact h4 z hz, hk3, hk4, hk5, fun w1 h1 W1 hab hg => ?_⟩⟩
      rcases hab with hab | ⟨rfl, rfl⟩
      · exact hmin w1 h1 W1 hab hg
      · have e := Greedy_enc hgr hg
        exact Or.inr ⟨prodB_congr e, Nat.le_of_eq (enc_congr e)⟩
    rcases hI with ⟨k1, k2⟩ | ⟨W, w1, h1, k1, kw, kh, k2, k3, k4, k5, k6', k7, k8⟩
    · have hlt : lN (prodB S gp sz W' w h) < q := by
        rw [k1, Int64.lt_iff_toInt_lt, pk_lT (by omega), show (9223372036854775807 : Int64).toInt = 9223372036854775807 from rfl]
        omega
      rw [if_pos ((lg_cmp_lt _ _).mpr hlt)]
      exact take (fun w1 h1 W1 hab hg => absurd ⟨W1, hg⟩ (k2 w1 h1 hab))
    · have hpb2 : prodB S gp sz W w1 h1 < 2 ^ 63 := by
        have hq : Lsum S gp sz W 6 ≤ 1340 := by
          have := Lsum_bd (S := S) (sz := sz) (W := W) hgp (fun z hz hm => hsz z hz hm _ (k2 z hz hm).1.1) (n := 6) (by omega)
          omega
        have : prodB S gp sz W w1 h1 ≤ 1340 * 240 * 240 := Nat.mul_le_mul (Nat.mul_le_mul hq (by omega)) (by omega)
        omega
      have stay : (prodB S gp sz W w1 h1 < prodB S gp sz W' w h ∨ (prodB S gp sz W w1 h1 = prodB S gp sz W' w h ∧ enc S W 6 ≤ enc S W' 6)) → Ic S gp sz wk (fun a b => T a b ∨ (a = w ∧ b = h)) g' q := by
        intro hcmp
        refine Or.inr ⟨W, w1, h1, Or.inl k1, kw, kh, k2, k3, fun z hz => by rw [hK 2 (by decide)]; exact k4 z hz, by rw [hK 1 (by decide)]; exact k5, by rw [hK 1 (by decide)]; exact k6', by rw [hK 1 (by decide)]; exact k7, fun w' h' W'' hab hg => ?_⟩
        rcases hab with hab | ⟨rfl, rfl⟩
        · exact k8 w' h' W'' hab hg
        · have e := Greedy_enc hgr hg
          rw [← prodB_congr e, ← enc_congr e]
          exact hcmp
      by_cases c1 : lg_cmp (lN (prodB S gp sz W' w h)) q < 0
      · rw [if_pos c1]
        rw [lg_cmp_lt, k3, pk_lLT (by omega) hpb2] at c1
        exact take (fun w' h' W1 hab hg => by have := k8 w' h' W1 hab hg; omega)
      · rw [if_neg c1]
        rw [lg_cmp_lt, k3, pk_lLT (by omega) hpb2] at c1
        by_cases c2 : lg_cmp (lN (prodB S gp sz W' w h)) q = 0
        · rw [if_pos c2]
          have hpe : prodB S gp sz W' w h = prodB S gp sz W w1 h1 := by
            have a1 := (lg_cmp_ge (lN (prodB S gp sz W' w h)) q).mp (by rw [c2]; decide)
            have a2 := (lg_cmp_le (lN (prodB S gp sz W' w h)) q).mp (by rw [c2]; decide)
            rw [k3, pk_lLE hpb2 (by omega)] at a1
            rw [k3, pk_lLE (by omega) hpb2] at a2
            omega
          have htl : f_Pk_triedIsLower g' q = some (if enc S W' 6 < enc S W 6 then 1 else 0) := tl_l (g := g') (fun z hz hm => ⟨(k2 z hz hm).1.1, (hgr z hz hm).1.1⟩) h4 (fun z hz => by rw [hK 2 (by decide)]; exact k4 z hz) FU 0 (Nat.zero_le _) (by unfold FU; omega) (fun z hz => absurd hz (Nat.not_lt_zero z))
          rw [htl, xv1_s]
          by_cases c3 : enc S W' 6 < enc S W 6
          · rw [if_pos c3, if_neg n10]
            exact take (fun w' h' W1 hab hg => by have := k8 w' h' W1 hab hg; omega)
          · rw [if_neg c3, if_pos rfl]
            exact ⟨g', q, rfl, fun f => by rw [hK 0 (by decide)], stay (Or.inr ⟨hpe.symm, by omega⟩)⟩
        · rw [if_neg c2]
          have hne : prodB S gp sz W w1 h1 ≠ prodB S gp sz W' w h := fun q' => c2 (by
            rw [k3, q']
            unfold lg_cmp
            simp)
          exact ⟨g', q, rfl, fun f => by rw [hK 0 (by decide)], stay (Or.inl (by omega))⟩
