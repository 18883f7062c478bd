theorem pw_all (S : Nat) : pw S 6 ≤ 46656 := pw_bd 6
theorem p2_64 {n : Nat} (hn : n ≤ 6) : 2 ^ n ≤ 64 := by
  rcases (show n = 0 ∨ n = 1 ∨ n = 2 ∨ n = 3 ∨ n = 4 ∨ n = 5 ∨ n = 6 by omega) with rfl | rfl | rfl | rfl | rfl | rfl | rfl <;> decide
/-- the class's packing where no object lacks a way, and the best is W -/
theorem pk_class {gGo gPk : St} {qPk : Int64} {S gp n : Nat} {sz wk W : Nat → Nat} (hG : Gds gGo S sz wk) (hS : S < 64) (hSn : ∀ z, S.testBit z = true → z < n) (hS0 : ∃ z, z < 6 ∧ S.testBit z = true) (hn : n ≤ 6) (hgp : gp ≤ 20) (hcn : gGo 0 5 = nI n) (hsz : ∀ i, i < 3 * n → gGo 1 i = nI (sz i) ∧ sz i ≤ 200) (ho : Opt S gp sz wk W) {way : Nat → Int32} (hway : ∀ z, z < 6 → way z = if S.testBit z then nI (W z) else -1) :
    ∃ g' q', f_Pk_packSet_X78 gPk qPk gGo (nI S) (nI gp) (nI n) = some (.inl (nI (cn S 6), g', q')) ∧ g' 0 4 = 1 ∧ (∀ z, z < 6 → g' 2 z = way z) ∧ g' 1 0 = nI (Lsum S gp sz W 6) ∧ g' 1 1 = nI (Wmax S sz 1 W 6 + 2 * gp) ∧ g' 1 2 = nI (Wmax S sz 2 W 6 + 2 * gp) ∧
      ∀ z, z < 6 → g' 3 z = if way z = -1 then -1 else nI (begs (fun z => (gGo 1 (3 * z + ax0 (way z).toNatClampNeg)).toNatClampNeg) way gp z) := by
  obtain ⟨g2, q2, a1, a2, a3, a4, a5, a6⟩ := fl_opt hG hS hSn hS0 hn hgp hcn hsz ho (g := up2 (up2 gPk 0 5 (nI S)) 0 6 (nI gp)) (q := qPk) rfl rfl
  have hW : ∀ z, z < 6 → S.testBit z = true → W z < 6 := fun z hz hm => (ho.1 z hz hm).1
  have e6 : g2 0 6 = nI gp := a2 6
  obtain ⟨g3, b1, b2, b3, b4⟩ := pr_l (gp := gp) hG hW hway FU 0 (Nat.zero_le _) (by unfold FU; omega) g2 e6 (fun z hz => by rw [a3 z hz, hway z hz])
  have hpl : f_Pk_placeInRow g2 q2 gGo = some g3 := by
    unfold f_Pk_placeInRow
    simp only [letb]
    rw [e6]
    exact b1
  have hbc : f_In_bitCount (nI S) = some (nI (cn S 6)) := bc_tab ⟨S, hS⟩
  refine ⟨up2 g3 0 4 1, q2, ?_, rfl, fun z hz => ?_, ?_, ?_, ?_, fun z hz => b4 z (Nat.zero_le _) hz⟩
  · unfold f_Pk_packSet_X78
    simp only [letb]
    rw [a1, xv2_s, hpl, xv1_s, hbc, xv1_s]
  · rw [up2_n (by decide), b2 2 (by decide), a3 z hz, hway z hz]
  · rw [up2_n (by decide), b2 1 (by decide), a4]
  · rw [up2_n (by decide), b2 1 (by decide), a5]
  · rw [up2_n (by decide), b2 1 (by decide), a6]
/-- the reference's end where the best is W -/
theorem pk_model {o g : St} {S gp n b : Nat} {sz wk : Nat → Nat} {v3 v8 : Int32} (hS : S < 64) (hgp : gp ≤ 20) (hM : Mds o S sz wk) (hK : Kt o g) (hb : b < pw S 6) :
    ∃ g', f_Mo_pack_X220 (nI S) (nI gp) v3 (nI n) (lN (prodW S gp sz (dd S 6 b))) (nI b) v8 g = some (nI n, g') ∧ (∀ z, z < 6 → g' 9 z = if S.testBit z then nI (dd S 6 b z) else -1) ∧ g' 0 10 = 1 ∧ g' 0 13 = nI gp ∧ g' 0 14 = nI (Lsum S gp sz (dd S 6 b) 6) ∧ g' 0 15 = nI (Wmax S sz 1 (dd S 6 b) 6 + 2 * gp) ∧ g' 0 16 = nI (Wmax S sz 2 (dd S 6 b) 6 + 2 * gp) ∧
      (∀ k, k ≠ 0 → k ≠ 9 → k ≠ 10 → g' k = o k) ∧ (∀ f, f ≠ 10 → f ≠ 13 → f ≠ 14 → f ≠ 15 → f ≠ 16 → g' 0 f = o 0 f) := by
  have hW : ∀ z, z < 6 → S.testBit z = true → dd S 6 b z < 6 := fun z _ _ => dd_lt 6 b z
  have hpb := pw_all S
  obtain ⟨g1, c1, c2, c3⟩ := turn_ok hS (o := o) b (by omega) hK
  have hM1 := Mds_k hM c2
  obtain ⟨-, -, -, p4⟩ := prodW_bd hgp hM1 hW
  have hl : f_Mo_lengthOf g1 (nI S) (nI gp) = some (nI (Lsum S gp sz (dd S 6 b) 6)) := ln_l hS hM1 hW c3 FU 0 (Nat.zero_le _) (by unfold FU; omega)
  let ga := up2 g1 0 14 (nI (Lsum S gp sz (dd S 6 b) 6))
  have hMa : Mds ga S sz wk := hM1
  have hw1 : f_Mo_widest ga (nI S) 1 (nI gp) = some (nI (Wmax S sz 1 (dd S 6 b) 6 + 2 * gp)) := wd_l (a := 1) (by decide) hS hMa hW c3 FU 0 (Nat.zero_le _) (by unfold FU; omega)
  let gb' := up2 ga 0 15 (nI (Wmax S sz 1 (dd S 6 b) 6 + 2 * gp))
  have hMb : Mds gb' S sz wk := hM1
  have hw2 : f_Mo_widest gb' (nI S) 2 (nI gp) = some (nI (Wmax S sz 2 (dd S 6 b) 6 + 2 * gp)) := wd_l (a := 2) (by decide) hS hMb hW c3 FU 0 (Nat.zero_le _) (by unfold FU; omega)
  let gc := up2 (up2 (up2 gb' 0 16 (nI (Wmax S sz 2 (dd S 6 b) 6 + 2 * gp))) 0 13 (nI gp)) 0 10 1
  obtain ⟨g', d1, d2, d3, d4⟩ := cp_l (v3 := v3) (v4 := nI n) (v7 := nI b) (v5 := lN (prodW S gp sz (dd S 6 b))) FU 0 (Nat.zero_le _) (by unfold FU; omega) gc
  have hge : 0 ≤ lg_cmp (lN (prodW S gp sz (dd S 6 b))) 0 := Int32.not_lt.mp (lg_neg (by omega))
  refine ⟨g', ?_, fun z hz => (d4 z (Nat.zero_le _) hz).trans (c3 z hz), ?_, ?_, ?_, ?_, ?_, fun k h1 h2 h3 => ?_, fun f h1 h2 h3 h4 h5 => ?_⟩
  · unfold f_Mo_pack_X220
    simp only [letb]
    rw [if_pos hge, c1, xv1_s, hl, xv1_s]
    show xv1 (f_Mo_widest ga (nI S) 1 (nI gp)) _ = _
    rw [hw1, xv1_s]
    show xv1 (f_Mo_widest gb' (nI S) 2 (nI gp)) _ = _
    rw [hw2, xv1_s]
    exact d1
  · rw [d2 0 (by decide)]; rfl
  · rw [d2 0 (by decide)]; rfl
  · rw [d2 0 (by decide)]; rfl
  · rw [d2 0 (by decide)]; rfl
  · rw [d2 0 (by decide)]; rfl
  · rw [d2 k h2]
    show up2 (up2 (up2 (up2 (up2 g1 0 14 _) 0 15 _) 0 16 _) 0 13 _) 0 10 1 k = o k
    rw [up2_n h1, up2_n h1, up2_n h1, up2_n h1, up2_n h1, c2 k h3]
  · rw [d2 0 (by decide)]
    show up2 (up2 (up2 (up2 (up2 g1 0 14 _) 0 15 _) 0 16 _) 0 13 _) 0 10 1 0 f = o 0 f
    rw [up2_at, up2_at, up2_at, up2_at, up2_at, c2 0 (by decide)]
    simp [h1, h2, h3, h4, h5]
theorem op_pack {gGo gFo gPk : St} {qPk : Int64} {gSk gAi gSh gJo o : St} (h : INV gGo gFo gPk qPk gSk gAi gSh gJo o) (p1 p2 : Int32) : AGR [(xIOE, 1), (xIAE, 2)] (f_Cc_pack gGo gFo gPk qPk gSk gAi gSh gJo p1 p2) (f_Mo_pack o p1 p2) o (fun x o' => INV gGo gFo x.1 x.2 gSk gAi gSh gJo o') := by
  obtain ⟨hG, hF, hP, hR, hA, hH, hJ⟩ := id h
  obtain ⟨n, hn, hc, ho1, hsz, hgr, hwk⟩ := id hG
  have h64 := p2_64 hn
  unfold f_Cc_pack
  rcases pk_refuse (gPk := gPk) (qPk := qPk) (p1 := p1) (p2 := p2) hn hc ho1 with ⟨S, hS, rfl, hS0, hg0, hg1⟩ | ⟨e1, b, e2⟩ | ⟨e1, b, e2⟩
  rotate_left
  · rw [e1]
    exact Or.inl ⟨xIOE, 1, b, by simp, rfl, e2⟩
  · rw [e1]
    exact Or.inl ⟨xIAE, 2, b, by simp, rfl, e2⟩
  obtain ⟨gp, -, hgp, rfl⟩ := i_range (a := 0) (b := 20) (by decide) hg0 hg1 (by decide)
  have hS6 : S < 64 := by omega
  have hSn : ∀ z, S.testBit z = true → z < n := fun z hz => bit_lt hS hz
  obtain ⟨⟨y, hy⟩, hy2⟩ := S_ex ⟨S, hS6⟩ hS0
  have hex : ∃ z, z < 6 ∧ S.testBit z = true := ⟨y, hy, hy2⟩
  let sz : Nat → Nat := fun j => (gGo 1 j).toNatClampNeg
  let wk : Nat → Nat := fun j => (gGo 3 j).toNatClampNeg
  have hsz1 : ∀ j, j < 3 * n → gGo 1 j = nI (sz j) ∧ o 1 j = nI (sz j) ∧ 1 ≤ sz j ∧ sz j ≤ 200 := fun j hj => by
    obtain ⟨v, v1, v2, v3, v4⟩ := hsz j hj
    have : sz j = v := by show (gGo 1 j).toNatClampNeg = v; rw [v3, cl_nI (by omega)]
    rw [this]; exact ⟨v3, v4, v1, v2⟩
  have hwk1 : ∀ j, j < 6 → gGo 3 j = nI (wk j) ∧ wk j < 64 ∧ ∀ s, s < 6 → o 3 (6 * j + s) = if (wk j).testBit s then 1 else 0 := fun j hj => by
    obtain ⟨v, v1, v2, v3⟩ := hwk j hj
    have : wk j = v := by show (gGo 3 j).toNatClampNeg = v; rw [v2, cl_nI (by omega)]
    rw [this]; exact ⟨v2, v1, v3⟩
  have hGd : Gds gGo S sz wk := fun z hz hm => ⟨fun k hk => by
    have := hSn z hm
    obtain ⟨a, b, c, d⟩ := hsz1 (3 * z + k) (by omega)
    exact ⟨a, c, d⟩, (hwk1 z hz).1, (hwk1 z hz).2.1⟩
  have hMd : Mds (up2 o 0 0 0) S sz wk := fun z hz hm => ⟨fun k hk => by
    have := hSn z hm
    obtain ⟨a, b, c, d⟩ := hsz1 (3 * z + k) (by omega)
    exact ⟨b, c, d⟩, (hwk1 z hz).2.2⟩
  have hpw := pw_all S
  obtain ⟨least, best, g', k1, k2, k3⟩ := pm_l (many := cn S 6) hS6 hgp hMd hpw FU 0 (Nat.zero_le _) (by unfold FU; omega) (-1) 0 (up2 o 0 0 0) (fun _ _ => rfl) (Or.inl ⟨rfl, fun j hj => absurd hj (Nat.not_lt_zero j)⟩)
  have hmod : f_Mo_pack o (nI S) (nI gp) = f_Mo_pack_X220 (nI S) (nI gp) (nI (pw S 6)) (nI (cn S 6)) least best (nI (pw S 6)) g' := by
    rw [← k3]
    unfold f_Mo_pack f_Mo_pack_J20
    rw [ho1]
    have hm := (set_m hn (nI S)).mpr ⟨S, hS, rfl⟩
    rw [if_neg hm.1, if_neg hm.2, if_neg (show ¬ nI S = 0 from nI_ne0 (by omega) (by omega)), wi_ok hg0 hg1, xv1_s, if_neg n10]
    unfold f_Mo_pack_J39
    rw [goes_ok, xv2_s, if_neg n10]
    exact am_l hS6 FU 0 (Nat.zero_le _) (by unfold FU; omega)
  have hcls : f_Pk_packSet gPk qPk gGo (nI S) (nI gp) = it1 (f_Pk_packSet_L43 gPk qPk gGo (nI S) (nI gp)) FU (nI 0) := by
    unfold f_Pk_packSet
    rw [hc, if_pos ((sh_r hn (nI S)).mpr ⟨S, hS, rfl⟩), if_neg (show ¬ nI S = 0 from nI_ne0 (by omega) (by omega)), rRange_ok hg0 hg1]
    rfl
  have hps := ps_l (gPk := gPk) (qPk := qPk) (p2 := nI gp) hGd hS6 hn hc FU 0 (Nat.zero_le _) (by unfold FU; omega)
  rw [hcls, hmod]
  rcases Im_opt k2 with ⟨l1, l2⟩ | ⟨b, l1, l2, l3, l4⟩
  · -- no way at all
    have hno : ∃ z, z < n ∧ S.testBit z = true ∧ wk z = 63 := by
      refine Classical.byContradiction fun hne => l2 ?_
      refine ⟨fun z => if hz : z < 6 ∧ wk z ≠ 63 then (if (wk z).testBit 0 = false then 0 else if (wk z).testBit 1 = false then 1 else if (wk z).testBit 2 = false then 2 else if (wk z).testBit 3 = false then 3 else if (wk z).testBit 4 = false then 4 else 5) else 0, fun z hz hm => ?_⟩
      have hw63 : wk z ≠ 63 := fun q => hne ⟨z, hSn z hm, hm, q⟩
      simp only [dif_pos (show z < 6 ∧ wk z ≠ 63 from ⟨hz, hw63⟩)]
      obtain ⟨⟨v, hv⟩, hv2⟩ := wk_all ⟨wk z, (hwk1 z hz).2.1⟩ hw63
      simp only at hv2
      rcases (show v = 0 ∨ v = 1 ∨ v = 2 ∨ v = 3 ∨ v = 4 ∨ v = 5 by omega) with rfl | rfl | rfl | rfl | rfl | rfl <;> (repeat' split) <;> simp_all
    rcases hps with ⟨hz, e⟩ | ⟨hz, e⟩
    · rw [e]
      refine Or.inr ⟨-1, (gPk, qPk), g', rfl, ?_, ?_, INV_k (h.thr 0) (fun k h1 h2 => (k1 k h1))⟩
      · unfold f_Mo_pack_X220
        rw [l1, if_neg (show ¬ 0 ≤ lg_cmp (-1) 0 by decide)]
      · rw [k1 0 (by decide)]; rfl
    · obtain ⟨z, z1, z2, z3⟩ := hno
      exact absurd z3 (hz z (Nat.zero_le _) z1 z2)
  · -- the best way
    rcases hps with ⟨⟨z, z1, z2, z3⟩, e⟩ | ⟨hz, e⟩
    · exfalso
      have hb := l3.1 z (by omega) z2
      have := wk_63 ⟨dd S 6 b z, hb.1⟩
      rw [z3] at hb
      rw [hb.2] at this
      cases this
    · obtain ⟨gm, m1, m2, m3, m4, m5, m6, m7, m8, m9⟩ := pk_model (n := cn S 6) (v3 := nI (pw S 6)) (v8 := nI (pw S 6)) hS6 hgp hMd k1 l1
      obtain ⟨gc, qc, c1, c2, c3, c4, c5, c6, c7⟩ := pk_class (gPk := gPk) (qPk := qPk) hGd hS6 hSn hex hn hgp hc (fun i hi => ⟨(hsz1 i hi).1, (hsz1 i hi).2.2.2⟩) l3 (way := gm 9) m2
      rw [e, c1, l4, l2, m1]
      have bd := prodW_bd hgp hMd (W := dd S 6 b) (fun z _ _ => dd_lt 6 b z)
      obtain ⟨b1, b2, b3, -⟩ := bd
      have m9' : ∀ f, f ≠ 0 → f ≠ 10 → f ≠ 13 → f ≠ 14 → f ≠ 15 → f ≠ 16 → gm 0 f = o 0 f := fun f h0 h1 h2 h3 h4 h5 => by
        rw [m9 f h1 h2 h3 h4 h5, up2_at]
        simp [h0]
      have m8' : ∀ k, k ≠ 0 → k ≠ 9 → k ≠ 10 → gm k = o k := fun k h0 h1 h2 => by rw [m8 k h0 h1 h2, up2_n h0]
      refine Or.inr ⟨nI (cn S 6), (gc, qc), gm, rfl, rfl, ?_, ?_, ?_, ?_, ?_, ?_, ?_, ?_⟩
      · rw [m9 0 (by decide) (by decide) (by decide) (by decide) (by decide)]; rfl
      · rw [m9' 1 (by decide) (by decide) (by decide) (by decide) (by decide) (by decide), m8' 1 (by decide) (by decide) (by decide), m8' 2 (by decide) (by decide) (by decide), m8' 3 (by decide) (by decide) (by decide)]
        exact hG
      · rw [m8' 4 (by decide) (by decide) (by decide), m8' 5 (by decide) (by decide) (by decide), m8' 6 (by decide) (by decide) (by decide), m8' 7 (by decide) (by decide) (by decide), m8' 8 (by decide) (by decide) (by decide)]
        exact hF
      · rw [m3, m4, m5, m6, m7]
        refine Or.inr ⟨c2, rfl, c4, c5, c6, ⟨_, _, _, by omega, by omega, by omega, rfl, rfl, rfl⟩, gp, n, hgp, rfl, hc, hn, fun j hj => ⟨c3 j hj, ?_⟩, c7⟩
        rw [m2 j hj]
        cases hm : S.testBit j
        · exact Or.inl rfl
        · exact Or.inr ⟨dd S 6 b j, dd_lt 6 b j, hSn j hm, rfl⟩
      · rw [m9' 18 (by decide) (by decide) (by decide) (by decide) (by decide) (by decide), m8' 12 (by decide) (by decide) (by decide), m8' 13 (by decide) (by decide) (by decide)]
        exact hR
      · rw [m9' 21 (by decide) (by decide) (by decide) (by decide) (by decide) (by decide), m9' 23 (by decide) (by decide) (by decide) (by decide) (by decide) (by decide), m8' 14 (by decide) (by decide) (by decide)]
        exact hA
      · rw [m9' 24 (by decide) (by decide) (by decide) (by decide) (by decide) (by decide), m9' 25 (by decide) (by decide) (by decide) (by decide) (by decide) (by decide), m9' 26 (by decide) (by decide) (by decide) (by decide) (by decide) (by decide), m9' 27 (by decide) (by decide) (by decide) (by decide) (by decide) (by decide), m9' 28 (by decide) (by decide) (by decide) (by decide) (by decide) (by decide)]
        exact hH
      · rw [m9' 29 (by decide) (by decide) (by decide) (by decide) (by decide) (by decide), m8' 15 (by decide) (by decide) (by decide)]
        exact hJ
