set_option maxRecDepth 100000 in
set_option maxHeartbeats 4000000 in
theorem lw_at {p : Program} {l : Launch} {e : Env} {s : State} {m : MethodId} {args : Array Value} {below : List Frame} {meth : Method} {c : Code} {H : Heap} {locs : List Loc} {cells slots : Nat} {Q : State → Prop} (hltr : l.stackTraces = false) {D : va_G} {cI cZ cJ : ClassId} {A : Nat → Prop} {xCc : Nat} {xGo : Nat → Nat} {xFo : Nat → Nat} {xPk : Nat → Nat} {xSk : Nat → Nat} {xAi : Nat → Nat} {xSh : Nat → Nat} {xJo : Nat → Nat} {xo : Nat} {xMo : Nat → Nat} {gGo : St} {gFo : St} {gPk : St} {qPk : Int64} {gSk : St} {gAi : St} {gSh : St} {gJo : St} {q : Nat → Int64} {o : St} {b L : Nat} {xs : Nat → Int32} {i : Int32} {ls : Array Slot} (C0 : CX p s m args c R_La code 7 D (TYS cI cZ cJ) A) (hX : va_X b L xs s s.heap) (hbl : b < s.heap.size) (hbA : ¬ A b) (h1 : vp_in (i + 1) L) (h2 : vp_in (i + 2) L) (h3 : vp_in (i + 3) L) (h4 : vp_in (i + 4) L) (hI : INV gGo gFo gPk qPk gSk gAi gSh gJo o) (hP : va_P D vwCl ((wCc xCc cI cZ xGo xFo xPk xSk xAi xSh xJo gGo gFo gPk qPk gSk gAi gSh gJo ++ ([(xo, .inl (cJ, 1, .inr (.inl q)))] : va_W)) ++ wMo xMo cI cZ o) H) (hD : va_D A ((wCc xCc cI cZ xGo xFo xPk xSk xAi xSh xJo gGo gFo gPk qPk gSk gAi gSh gJo ++ ([(xo, .inl (cJ, 1, .inr (.inl q)))] : va_W)) ++ wMo xMo cI cZ o)) (hS : va_S A s.heap H locs) (hl : lv_has ls 7 [(4, .int i), (3, .ref xo), (2, .ref (xMo 0)), (1, .ref xCc), (0, .ref b)]) (hcs : cells + 1 ≤ room_1.cells ∧ slots + 6 ≤ room_1.slots)
    (kk : ∀ (gGo1 : St) (gFo1 : St) (gPk1 : St) (qPk1 : Int64) (gSk1 : St) (gAi1 : St) (gSh1 : St) (gJo1 : St) (q1 : Nat → Int64) (o1 : St) (H1 : Heap) (locs1 : List Loc) (ls1 : Array Slot), INV gGo1 gFo1 gPk1 qPk1 gSk1 gAi1 gSh1 gJo1 o1 → va_P D vwCl ((wCc xCc cI cZ xGo xFo xPk xSk xAi xSh xJo gGo1 gFo1 gPk1 qPk1 gSk1 gAi1 gSh1 gJo1 ++ ([(xo, .inl (cJ, 1, .inr (.inl q1)))] : va_W)) ++ wMo xMo cI cZ o1) H1 → va_D A ((wCc xCc cI cZ xGo xFo xPk xSk xAi xSh xJo gGo1 gFo1 gPk1 qPk1 gSk1 gAi1 gSh1 gJo1 ++ ([(xo, .inl (cJ, 1, .inr (.inl q1)))] : va_W)) ++ wMo xMo cI cZ o1) → va_S A s.heap H1 locs1 → lv_has ls1 7 [(4, .int i), (3, .ref xo), (2, .ref (xMo 0)), (1, .ref xCc), (0, .ref b)] → W p l e room_1 s m args below meth c H1 locs1 (cells + 1) (slots + 6) Q (F0 m 1629 ls1 [])) : W p l e room_1 s m args below meth c H locs cells slots Q (F0 m 779 ls []) := by
  obtain ⟨hx, hb, -, hown, hts, hK, hE, -⟩ := id C0
  refine lv_aload_n hx hb d_law_779 rfl (lv_at hl 3 rfl) ?_
  refine lv_aload_n hx hb d_law_780 rfl (lv_at hl 4 rfl) ?_
  refine lv_iload hx hb d_law_781 (lv_at hl 0 rfl) ?_
  refine lv_iconst (v := 1) hx hb d_law_783 (by decide) ?_
  refine lv_iadd hx hb d_law_784 ?_
  refine va_sld hx hb hX hbl hbA hS h1 d_law_785 ?_
  refine lv_aload_n hx hb d_law_786 rfl (lv_at hl 4 rfl) ?_
  refine lv_iload hx hb d_law_787 (lv_at hl 0 rfl) ?_
  refine lv_iconst (v := 2) hx hb d_law_789 (by decide) ?_
  refine lv_iadd hx hb d_law_790 ?_
  refine va_sld hx hb hX hbl hbA hS h2 d_law_791 ?_
  refine lv_aload_n hx hb d_law_792 rfl (lv_at hl 1 rfl) ?_
  obtain ⟨k, r, q1, o1, hM, hm, ht, hq, hI1⟩ := g_at (l := l) (D := D) (cJ := cJ) (xCc := xCc) (xGo := xGo) (xFo := xFo) (xPk := xPk) (xSk := xSk) (xAi := xAi) (xSh := xSh) (xJo := xJo) (cI := cI) (cZ := cZ) (xo := xo) (q := q) hltr hI (xs (i + 1).toNatClampNeg) (xs (i + 2).toNatClampNeg)
  refine cW (ws' := (wCc xCc cI cZ xGo xFo xPk xSk xAi xSh xJo gGo gFo gPk qPk gSk gAi gSh gJo ++ ([(xo, .inl (cJ, 1, .inr (.inl q1)))] : va_W)) ++ wMo xMo cI cZ o) (As := [.ref xCc, .int (xs (i + 1).toNatClampNeg), .int (xs (i + 2).toNatClampNeg), .ref xo]) (rest := []) C0 hP hD hS hl.1 [0, 1, 2, 3, 4, 5, 6, 7, 8, 9, 10, 11, 12, 13, 14, 15, 16, 17, 18, 19, 20, 21, 22, 23, 24, 25, 26, 27, 28] (hM H.size) kw_at m_511 (C_pre rfl) rfl rfl (rp_pre rfl rfl) ⟨by decide, by decide⟩ ⟨rfl, rfl⟩ rfl (Nat.le_of_ble_eq_true rfl) d_law_793 hcs (fun H locs hP hD hS => ?_)
  refine lv_istore (lv' := [(5, .int k), (4, .int i), (3, .ref xo), (2, .ref (xMo 0)), (1, .ref xCc), (0, .ref b)]) hx hb d_law_796 hl (by decide) rfl (fun ls hl => ?_)
  refine lv_aload_n hx hb d_law_798 rfl (lv_at hl 3 rfl) ?_
  refine lv_aload_n hx hb d_law_799 rfl (lv_at hl 5 rfl) ?_
  refine lv_iload hx hb d_law_800 (lv_at hl 1 rfl) ?_
  refine lv_iconst (v := 1) hx hb d_law_802 (by decide) ?_
  refine lv_iadd hx hb d_law_803 ?_
  refine va_sld hx hb hX hbl hbA hS h1 d_law_804 ?_
  refine lv_aload_n hx hb d_law_805 rfl (lv_at hl 5 rfl) ?_
  refine lv_iload hx hb d_law_806 (lv_at hl 1 rfl) ?_
  refine lv_iconst (v := 2) hx hb d_law_808 (by decide) ?_
  refine lv_iadd hx hb d_law_809 ?_
  refine va_sld hx hb hX hbl hbA hS h2 d_law_810 ?_
  refine cVi (ws' := (wCc xCc cI cZ xGo xFo xPk xSk xAi xSh xJo gGo gFo gPk qPk gSk gAi gSh gJo ++ ([(xo, .inl (cJ, 1, .inr (.inl q1)))] : va_W)) ++ wMo xMo cI cZ o1) (As := [.int (xs (i + 1).toNatClampNeg), .int (xs (i + 2).toNatClampNeg)]) (rest := []) C0 hP hD hS hl.1 [29, 30, 31, 32, 33, 34, 35, 36, 37, 38, 39, 40, 41, 42, 43, 44] (c_Mo_at_r l D cI cZ cJ xMo H.size o (xs (i + 1).toNatClampNeg) (xs (i + 2).toNatClampNeg) r o1 hm) k_Mo_at m_881 rfl rfl (C_suf rfl) rfl rfl (rp_suf rfl rfl) ⟨by decide, by decide⟩ ⟨rfl, rfl⟩ rfl (Nat.le_of_ble_eq_true rfl) d_law_811 ⟨hcs.1, hcs.2⟩ (fun H locs hP hD hS => ?_)
  refine lv_istore (lv' := [(6, .int r), (5, .int k), (4, .int i), (3, .ref xo), (2, .ref (xMo 0)), (1, .ref xCc), (0, .ref b)]) hx hb d_law_814 hl (by decide) rfl (fun ls hl => ?_)
  refine lv_aload_n hx hb d_law_816 rfl (lv_at hl 4 rfl) ?_
  refine cVi (ws' := (wCc xCc cI cZ xGo xFo xPk xSk xAi xSh xJo gGo gFo gPk qPk gSk gAi gSh gJo ++ ([(xo, .inl (cJ, 1, .inr (.inl q1)))] : va_W)) ++ wMo xMo cI cZ o1) (As := []) (rest := []) C0 hP hD hS hl.1 [29, 30, 31, 32, 33, 34, 35, 36, 37, 38, 39, 40, 41, 42, 43, 44] (c_Mo_thrown_r l D cI cZ cJ xMo H.size o1 (o1 0 0) rfl) k_Mo_thrown m_798 rfl rfl (C_suf rfl) rfl rfl (rp_same (C_suf rfl)) ⟨by decide, by decide⟩ ⟨rfl, rfl⟩ rfl (Nat.le_of_ble_eq_true rfl) d_law_817 ⟨hcs.1, hcs.2⟩ (fun H locs hP hD hS => ?_)
  refine lv_iload hx hb d_law_820 (lv_at hl 1 rfl) ?_
  refine lv_icmp_eq (tgt := 827) hx hb d_law_822 (by decide) (fun _ => ?_) (fun hne => absurd ht hne)
  refine lv_iload hx hb d_law_827 (lv_at hl 1 rfl) ?_
  have fin : W p l e room_1 s m args below meth c H locs (cells + 1) (slots + 6) Q (F0 m 844 ls []) := by
    refine lv_goto (tgt := 1629) hx hb d_law_844 (by decide) ?_
    exact kk gGo gFo gPk qPk gSk gAi gSh gJo q1 o1 H locs ls hI1 hP hD hS (lv_sub hl [2, 3, 4, 5, 6] rfl)
  refine lv_if_ne (tgt := 844) hx hb d_law_829 (by decide) (fun _ => fin) (fun hk0 => ?_)
  refine lv_aload_n hx hb d_law_832 rfl (lv_at hl 3 rfl) ?_
  refine lv_iconst (v := 0) hx hb d_law_833 (by decide) ?_
  refine va_lald hx hb hK hP 28 2 rfl rfl (inb_in (by decide)) d_law_834 ?_
  refine lv_iload hx hb d_law_835 (lv_at hl 0 rfl) ?_
  refine lv_i2l (v := r.toInt64) hx hb d_law_837 rfl ?_
  refine W.lcmp hx hb d_law_838 ?_
  refine lv_if_eq (tgt := 844) hx hb d_law_839 (by decide) (fun _ => fin) (fun hne => absurd (by rw [hq hk0]; exact lg_self _) hne)
set_option maxRecDepth 100000 in
set_option maxHeartbeats 4000000 in
theorem lw_crate {p : Program} {l : Launch} {e : Env} {s : State} {m : MethodId} {args : Array Value} {below : List Frame} {meth : Method} {c : Code} {H : Heap} {locs : List Loc} {cells slots : Nat} {Q : State → Prop} (hltr : l.stackTraces = false) {D : va_G} {cI cZ cJ : ClassId} {A : Nat → Prop} {xCc : Nat} {xGo : Nat → Nat} {xFo : Nat → Nat} {xPk : Nat → Nat} {xSk : Nat → Nat} {xAi : Nat → Nat} {xSh : Nat → Nat} {xJo : Nat → Nat} {xo : Nat} {xMo : Nat → Nat} {gGo : St} {gFo : St} {gPk : St} {qPk : Int64} {gSk : St} {gAi : St} {gSh : St} {gJo : St} {q : Nat → Int64} {o : St} {b L : Nat} {xs : Nat → Int32} {i : Int32} {ls : Array Slot} (C0 : CX p s m args c R_La code 7 D (TYS cI cZ cJ) A) (hX : va_X b L xs s s.heap) (hbl : b < s.heap.size) (hbA : ¬ A b) (h1 : vp_in (i + 1) L) (h2 : vp_in (i + 2) L) (h3 : vp_in (i + 3) L) (h4 : vp_in (i + 4) L) (hI : INV gGo gFo gPk qPk gSk gAi gSh gJo o) (hP : va_P D vwCl ((wCc xCc cI cZ xGo xFo xPk xSk xAi xSh xJo gGo gFo gPk qPk gSk gAi gSh gJo ++ ([(xo, .inl (cJ, 1, .inr (.inl q)))] : va_W)) ++ wMo xMo cI cZ o) H) (hD : va_D A ((wCc xCc cI cZ xGo xFo xPk xSk xAi xSh xJo gGo gFo gPk qPk gSk gAi gSh gJo ++ ([(xo, .inl (cJ, 1, .inr (.inl q)))] : va_W)) ++ wMo xMo cI cZ o)) (hS : va_S A s.heap H locs) (hl : lv_has ls 7 [(4, .int i), (3, .ref xo), (2, .ref (xMo 0)), (1, .ref xCc), (0, .ref b)]) (hcs : cells + 1 ≤ room_1.cells ∧ slots + 6 ≤ room_1.slots)
    (kk : ∀ (gGo1 : St) (gFo1 : St) (gPk1 : St) (qPk1 : Int64) (gSk1 : St) (gAi1 : St) (gSh1 : St) (gJo1 : St) (q1 : Nat → Int64) (o1 : St) (H1 : Heap) (locs1 : List Loc) (ls1 : Array Slot), INV gGo1 gFo1 gPk1 qPk1 gSk1 gAi1 gSh1 gJo1 o1 → va_P D vwCl ((wCc xCc cI cZ xGo xFo xPk xSk xAi xSh xJo gGo1 gFo1 gPk1 qPk1 gSk1 gAi1 gSh1 gJo1 ++ ([(xo, .inl (cJ, 1, .inr (.inl q1)))] : va_W)) ++ wMo xMo cI cZ o1) H1 → va_D A ((wCc xCc cI cZ xGo xFo xPk xSk xAi xSh xJo gGo1 gFo1 gPk1 qPk1 gSk1 gAi1 gSh1 gJo1 ++ ([(xo, .inl (cJ, 1, .inr (.inl q1)))] : va_W)) ++ wMo xMo cI cZ o1) → va_S A s.heap H1 locs1 → lv_has ls1 7 [(4, .int i), (3, .ref xo), (2, .ref (xMo 0)), (1, .ref xCc), (0, .ref b)] → W p l e room_1 s m args below meth c H1 locs1 (cells + 1) (slots + 6) Q (F0 m 1629 ls1 [])) : W p l e room_1 s m args below meth c H locs cells slots Q (F0 m 847 ls []) := by
  obtain ⟨hx, hb, -, hown, hts, hK, hE, -⟩ := id C0
  refine lv_aload_n hx hb d_law_847 rfl (lv_at hl 3 rfl) ?_
  refine lv_aload_n hx hb d_law_848 rfl (lv_at hl 4 rfl) ?_
  refine lv_iload hx hb d_law_849 (lv_at hl 0 rfl) ?_
  refine lv_iconst (v := 1) hx hb d_law_851 (by decide) ?_
  refine lv_iadd hx hb d_law_852 ?_
  refine va_sld hx hb hX hbl hbA hS h1 d_law_853 ?_
  refine lv_aload_n hx hb d_law_854 rfl (lv_at hl 4 rfl) ?_
  refine lv_iload hx hb d_law_855 (lv_at hl 0 rfl) ?_
  refine lv_iconst (v := 2) hx hb d_law_857 (by decide) ?_
  refine lv_iadd hx hb d_law_858 ?_
  refine va_sld hx hb hX hbl hbA hS h2 d_law_859 ?_
  refine lv_aload_n hx hb d_law_860 rfl (lv_at hl 4 rfl) ?_
  refine lv_iload hx hb d_law_861 (lv_at hl 0 rfl) ?_
  refine lv_iconst (v := 3) hx hb d_law_863 (by decide) ?_
  refine lv_iadd hx hb d_law_864 ?_
  refine va_sld hx hb hX hbl hbA hS h3 d_law_865 ?_
  refine lv_aload_n hx hb d_law_866 rfl (lv_at hl 1 rfl) ?_
  obtain ⟨k, r, gSk1, q1, o1, hM, hm, ht, hq, hI1⟩ := g_crate (l := l) (D := D) (cJ := cJ) (xCc := xCc) (xGo := xGo) (xFo := xFo) (xPk := xPk) (xSk := xSk) (xAi := xAi) (xSh := xSh) (xJo := xJo) (cI := cI) (cZ := cZ) (xo := xo) (q := q) hltr hI (xs (i + 1).toNatClampNeg) (xs (i + 2).toNatClampNeg) (xs (i + 3).toNatClampNeg)
  refine cW (ws' := (wCc xCc cI cZ xGo xFo xPk xSk xAi xSh xJo gGo gFo gPk qPk gSk1 gAi gSh gJo ++ ([(xo, .inl (cJ, 1, .inr (.inl q1)))] : va_W)) ++ wMo xMo cI cZ o) (As := [.ref xCc, .int (xs (i + 1).toNatClampNeg), .int (xs (i + 2).toNatClampNeg), .int (xs (i + 3).toNatClampNeg), .ref xo]) (rest := []) C0 hP hD hS hl.1 [0, 1, 2, 3, 4, 5, 6, 7, 8, 9, 10, 11, 12, 13, 14, 15, 16, 17, 18, 19, 20, 21, 22, 23, 24, 25, 26, 27, 28] (hM H.size) kw_crate m_524 (C_pre rfl) rfl rfl (rp_pre rfl rfl) ⟨by decide, by decide⟩ ⟨rfl, rfl⟩ rfl (Nat.le_of_ble_eq_true rfl) d_law_867 hcs (fun H locs hP hD hS => ?_)
  refine lv_istore (lv' := [(5, .int k), (4, .int i), (3, .ref xo), (2, .ref (xMo 0)), (1, .ref xCc), (0, .ref b)]) hx hb d_law_870 hl (by decide) rfl (fun ls hl => ?_)
  refine lv_aload_n hx hb d_law_872 rfl (lv_at hl 3 rfl) ?_
  refine lv_aload_n hx hb d_law_873 rfl (lv_at hl 5 rfl) ?_
  refine lv_iload hx hb d_law_874 (lv_at hl 1 rfl) ?_
  refine lv_iconst (v := 1) hx hb d_law_876 (by decide) ?_
  refine lv_iadd hx hb d_law_877 ?_
  refine va_sld hx hb hX hbl hbA hS h1 d_law_878 ?_
  refine lv_aload_n hx hb d_law_879 rfl (lv_at hl 5 rfl) ?_
  refine lv_iload hx hb d_law_880 (lv_at hl 1 rfl) ?_
  refine lv_iconst (v := 2) hx hb d_law_882 (by decide) ?_
  refine lv_iadd hx hb d_law_883 ?_
  refine va_sld hx hb hX hbl hbA hS h2 d_law_884 ?_
  refine lv_aload_n hx hb d_law_885 rfl (lv_at hl 5 rfl) ?_
  refine lv_iload hx hb d_law_886 (lv_at hl 1 rfl) ?_
  refine lv_iconst (v := 3) hx hb d_law_888 (by decide) ?_
  refine lv_iadd hx hb d_law_889 ?_
  refine va_sld hx hb hX hbl hbA hS h3 d_law_890 ?_
  refine cVi (ws' := (wCc xCc cI cZ xGo xFo xPk xSk xAi xSh xJo gGo gFo gPk qPk gSk1 gAi gSh gJo ++ ([(xo, .inl (cJ, 1, .inr (.inl q1)))] : va_W)) ++ wMo xMo cI cZ o1) (As := [.int (xs (i + 1).toNatClampNeg), .int (xs (i + 2).toNatClampNeg), .int (xs (i + 3).toNatClampNeg)]) (rest := []) C0 hP hD hS hl.1 [29, 30, 31, 32, 33, 34, 35, 36, 37, 38, 39, 40, 41, 42, 43, 44] (c_Mo_crate_r l D cI cZ cJ xMo H.size o (xs (i + 1).toNatClampNeg) (xs (i + 2).toNatClampNeg) (xs (i + 3).toNatClampNeg) r o1 hm) k_Mo_crate m_885 rfl rfl (C_suf rfl) rfl rfl (rp_suf rfl rfl) ⟨by decide, by decide⟩ ⟨rfl, rfl⟩ rfl (Nat.le_of_ble_eq_true rfl) d_law_891 ⟨hcs.1, hcs.2⟩ (fun H locs hP hD hS => ?_)
  refine lv_istore (lv' := [(6, .int r), (5, .int k), (4, .int i), (3, .ref xo), (2, .ref (xMo 0)), (1, .ref xCc), (0, .ref b)]) hx hb d_law_894 hl (by decide) rfl (fun ls hl => ?_)
  refine lv_aload_n hx hb d_law_896 rfl (lv_at hl 4 rfl) ?_
  refine cVi (ws' := (wCc xCc cI cZ xGo xFo xPk xSk xAi xSh xJo gGo gFo gPk qPk gSk1 gAi gSh gJo ++ ([(xo, .inl (cJ, 1, .inr (.inl q1)))] : va_W)) ++ wMo xMo cI cZ o1) (As := []) (rest := []) C0 hP hD hS hl.1 [29, 30, 31, 32, 33, 34, 35, 36, 37, 38, 39, 40, 41, 42, 43, 44] (c_Mo_thrown_r l D cI cZ cJ xMo H.size o1 (o1 0 0) rfl) k_Mo_thrown m_798 rfl rfl (C_suf rfl) rfl rfl (rp_same (C_suf rfl)) ⟨by decide, by decide⟩ ⟨rfl, rfl⟩ rfl (Nat.le_of_ble_eq_true rfl) d_law_897 ⟨hcs.1, hcs.2⟩ (fun H locs hP hD hS => ?_)
  refine lv_iload hx hb d_law_900 (lv_at hl 1 rfl) ?_
  refine lv_icmp_eq (tgt := 907) hx hb d_law_902 (by decide) (fun _ => ?_) (fun hne => absurd ht hne)
  refine lv_iload hx hb d_law_907 (lv_at hl 1 rfl) ?_
  have fin : W p l e room_1 s m args below meth c H locs (cells + 1) (slots + 6) Q (F0 m 924 ls []) := by
    refine lv_goto (tgt := 1629) hx hb d_law_924 (by decide) ?_
    exact kk gGo gFo gPk qPk gSk1 gAi gSh gJo q1 o1 H locs ls hI1 hP hD hS (lv_sub hl [2, 3, 4, 5, 6] rfl)
  refine lv_if_ne (tgt := 924) hx hb d_law_909 (by decide) (fun _ => fin) (fun hk0 => ?_)
  refine lv_aload_n hx hb d_law_912 rfl (lv_at hl 3 rfl) ?_
  refine lv_iconst (v := 0) hx hb d_law_913 (by decide) ?_
  refine va_lald hx hb hK hP 28 2 rfl rfl (inb_in (by decide)) d_law_914 ?_
  refine lv_iload hx hb d_law_915 (lv_at hl 0 rfl) ?_
  refine lv_i2l (v := r.toInt64) hx hb d_law_917 rfl ?_
  refine W.lcmp hx hb d_law_918 ?_
  refine lv_if_eq (tgt := 924) hx hb d_law_919 (by decide) (fun _ => fin) (fun hne => absurd (by rw [hq hk0]; exact lg_self _) hne)
set_option maxRecDepth 100000 in
set_option maxHeartbeats 4000000 in
theorem lw_match {p : Program} {l : Launch} {e : Env} {s : State} {m : MethodId} {args : Array Value} {below : List Frame} {meth : Method} {c : Code} {H : Heap} {locs : List Loc} {cells slots : Nat} {Q : State → Prop} (hltr : l.stackTraces = false) {D : va_G} {cI cZ cJ : ClassId} {A : Nat → Prop} {xCc : Nat} {xGo : Nat → Nat} {xFo : Nat → Nat} {xPk : Nat → Nat} {xSk : Nat → Nat} {xAi : Nat → Nat} {xSh : Nat → Nat} {xJo : Nat → Nat} {xo : Nat} {xMo : Nat → Nat} {gGo : St} {gFo : St} {gPk : St} {qPk : Int64} {gSk : St} {gAi : St} {gSh : St} {gJo : St} {q : Nat → Int64} {o : St} {b L : Nat} {xs : Nat → Int32} {i : Int32} {ls : Array Slot} (C0 : CX p s m args c R_La code 7 D (TYS cI cZ cJ) A) (hX : va_X b L xs s s.heap) (hbl : b < s.heap.size) (hbA : ¬ A b) (h1 : vp_in (i + 1) L) (h2 : vp_in (i + 2) L) (h3 : vp_in (i + 3) L) (h4 : vp_in (i + 4) L) (hI : INV gGo gFo gPk qPk gSk gAi gSh gJo o) (hP : va_P D vwCl ((wCc xCc cI cZ xGo xFo xPk xSk xAi xSh xJo gGo gFo gPk qPk gSk gAi gSh gJo ++ ([(xo, .inl (cJ, 1, .inr (.inl q)))] : va_W)) ++ wMo xMo cI cZ o) H) (hD : va_D A ((wCc xCc cI cZ xGo xFo xPk xSk xAi xSh xJo gGo gFo gPk qPk gSk gAi gSh gJo ++ ([(xo, .inl (cJ, 1, .inr (.inl q)))] : va_W)) ++ wMo xMo cI cZ o)) (hS : va_S A s.heap H locs) (hl : lv_has ls 7 [(4, .int i), (3, .ref xo), (2, .ref (xMo 0)), (1, .ref xCc), (0, .ref b)]) (hcs : cells + 1 ≤ room_1.cells ∧ slots + 6 ≤ room_1.slots)
    (kk : ∀ (gGo1 : St) (gFo1 : St) (gPk1 : St) (qPk1 : Int64) (gSk1 : St) (gAi1 : St) (gSh1 : St) (gJo1 : St) (q1 : Nat → Int64) (o1 : St) (H1 : Heap) (locs1 : List Loc) (ls1 : Array Slot), INV gGo1 gFo1 gPk1 qPk1 gSk1 gAi1 gSh1 gJo1 o1 → va_P D vwCl ((wCc xCc cI cZ xGo xFo xPk xSk xAi xSh xJo gGo1 gFo1 gPk1 qPk1 gSk1 gAi1 gSh1 gJo1 ++ ([(xo, .inl (cJ, 1, .inr (.inl q1)))] : va_W)) ++ wMo xMo cI cZ o1) H1 → va_D A ((wCc xCc cI cZ xGo xFo xPk xSk xAi xSh xJo gGo1 gFo1 gPk1 qPk1 gSk1 gAi1 gSh1 gJo1 ++ ([(xo, .inl (cJ, 1, .inr (.inl q1)))] : va_W)) ++ wMo xMo cI cZ o1) → va_S A s.heap H1 locs1 → lv_has ls1 7 [(4, .int i), (3, .ref xo), (2, .ref (xMo 0)), (1, .ref xCc), (0, .ref b)] → W p l e room_1 s m args below meth c H1 locs1 (cells + 1) (slots + 6) Q (F0 m 1629 ls1 [])) : W p l e room_1 s m args below meth c H locs cells slots Q (F0 m 927 ls []) := by
  obtain ⟨hx, hb, -, hown, hts, hK, hE, -⟩ := id C0
  refine lv_aload_n hx hb d_law_927 rfl (lv_at hl 3 rfl) ?_
  refine lv_aload_n hx hb d_law_928 rfl (lv_at hl 1 rfl) ?_
  obtain ⟨k, r, gSk1, q1, o1, hM, hm, ht, hq, hI1⟩ := g_match (l := l) (D := D) (cJ := cJ) (xCc := xCc) (xGo := xGo) (xFo := xFo) (xPk := xPk) (xSk := xSk) (xAi := xAi) (xSh := xSh) (xJo := xJo) (cI := cI) (cZ := cZ) (xo := xo) (q := q) hltr hI 
  refine cW (ws' := (wCc xCc cI cZ xGo xFo xPk xSk xAi xSh xJo gGo gFo gPk qPk gSk1 gAi gSh gJo ++ ([(xo, .inl (cJ, 1, .inr (.inl q1)))] : va_W)) ++ wMo xMo cI cZ o) (As := [.ref xCc, .ref xo]) (rest := []) C0 hP hD hS hl.1 [0, 1, 2, 3, 4, 5, 6, 7, 8, 9, 10, 11, 12, 13, 14, 15, 16, 17, 18, 19, 20, 21, 22, 23, 24, 25, 26, 27, 28] (hM H.size) kw_match m_537 (C_pre rfl) rfl rfl (rp_pre rfl rfl) ⟨by decide, by decide⟩ ⟨rfl, rfl⟩ rfl (Nat.le_of_ble_eq_true rfl) d_law_929 hcs (fun H locs hP hD hS => ?_)
  refine lv_istore (lv' := [(5, .int k), (4, .int i), (3, .ref xo), (2, .ref (xMo 0)), (1, .ref xCc), (0, .ref b)]) hx hb d_law_932 hl (by decide) rfl (fun ls hl => ?_)
  refine lv_aload_n hx hb d_law_934 rfl (lv_at hl 3 rfl) ?_
  refine cVi (ws' := (wCc xCc cI cZ xGo xFo xPk xSk xAi xSh xJo gGo gFo gPk qPk gSk1 gAi gSh gJo ++ ([(xo, .inl (cJ, 1, .inr (.inl q1)))] : va_W)) ++ wMo xMo cI cZ o1) (As := []) (rest := []) C0 hP hD hS hl.1 [29, 30, 31, 32, 33, 34, 35, 36, 37, 38, 39, 40, 41, 42, 43, 44] (c_Mo_match_r l D cI cZ cJ xMo H.size o  r o1 hm) k_Mo_match m_889 rfl rfl (C_suf rfl) rfl rfl (rp_suf rfl rfl) ⟨by decide, by decide⟩ ⟨rfl, rfl⟩ rfl (Nat.le_of_ble_eq_true rfl) d_law_935 ⟨hcs.1, hcs.2⟩ (fun H locs hP hD hS => ?_)
  refine lv_istore (lv' := [(6, .int r), (5, .int k), (4, .int i), (3, .ref xo), (2, .ref (xMo 0)), (1, .ref xCc), (0, .ref b)]) hx hb d_law_938 hl (by decide) rfl (fun ls hl => ?_)
  refine lv_aload_n hx hb d_law_940 rfl (lv_at hl 4 rfl) ?_
  refine cVi (ws' := (wCc xCc cI cZ xGo xFo xPk xSk xAi xSh xJo gGo gFo gPk qPk gSk1 gAi gSh gJo ++ ([(xo, .inl (cJ, 1, .inr (.inl q1)))] : va_W)) ++ wMo xMo cI cZ o1) (As := []) (rest := []) C0 hP hD hS hl.1 [29, 30, 31, 32, 33, 34, 35, 36, 37, 38, 39, 40, 41, 42, 43, 44] (c_Mo_thrown_r l D cI cZ cJ xMo H.size o1 (o1 0 0) rfl) k_Mo_thrown m_798 rfl rfl (C_suf rfl) rfl rfl (rp_same (C_suf rfl)) ⟨by decide, by decide⟩ ⟨rfl, rfl⟩ rfl (Nat.le_of_ble_eq_true rfl) d_law_941 ⟨hcs.1, hcs.2⟩ (fun H locs hP hD hS => ?_)
  refine lv_iload hx hb d_law_944 (lv_at hl 1 rfl) ?_
  refine lv_icmp_eq (tgt := 951) hx hb d_law_946 (by decide) (fun _ => ?_) (fun hne => absurd ht hne)
  refine lv_iload hx hb d_law_951 (lv_at hl 1 rfl) ?_
  have fin : W p l e room_1 s m args below meth c H locs (cells + 1) (slots + 6) Q (F0 m 968 ls []) := by
    refine lv_goto (tgt := 1629) hx hb d_law_968 (by decide) ?_
    exact kk gGo gFo gPk qPk gSk1 gAi gSh gJo q1 o1 H locs ls hI1 hP hD hS (lv_sub hl [2, 3, 4, 5, 6] rfl)
  refine lv_if_ne (tgt := 968) hx hb d_law_953 (by decide) (fun _ => fin) (fun hk0 => ?_)
  refine lv_aload_n hx hb d_law_956 rfl (lv_at hl 3 rfl) ?_
  refine lv_iconst (v := 0) hx hb d_law_957 (by decide) ?_
  refine va_lald hx hb hK hP 28 2 rfl rfl (inb_in (by decide)) d_law_958 ?_
  refine lv_iload hx hb d_law_959 (lv_at hl 0 rfl) ?_
  refine lv_i2l (v := r.toInt64) hx hb d_law_961 rfl ?_
  refine W.lcmp hx hb d_law_962 ?_
  refine lv_if_eq (tgt := 968) hx hb d_law_963 (by decide) (fun _ => fin) (fun hne => absurd (by rw [hq hk0]; exact lg_self _) hne)
set_option maxRecDepth 100000 in
set_option maxHeartbeats 4000000 in
theorem lw_free {p : Program} {l : Launch} {e : Env} {s : State} {m : MethodId} {args : Array Value} {below : List Frame} {meth : Method} {c : Code} {H : Heap} {locs : List Loc} {cells slots : Nat} {Q : State → Prop} (hltr : l.stackTraces = false) {D : va_G} {cI cZ cJ : ClassId} {A : Nat → Prop} {xCc : Nat} {xGo : Nat → Nat} {xFo : Nat → Nat} {xPk : Nat → Nat} {xSk : Nat → Nat} {xAi : Nat → Nat} {xSh : Nat → Nat} {xJo : Nat → Nat} {xo : Nat} {xMo : Nat → Nat} {gGo : St} {gFo : St} {gPk : St} {qPk : Int64} {gSk : St} {gAi : St} {gSh : St} {gJo : St} {q : Nat → Int64} {o : St} {b L : Nat} {xs : Nat → Int32} {i : Int32} {ls : Array Slot} (C0 : CX p s m args c R_La code 7 D (TYS cI cZ cJ) A) (hX : va_X b L xs s s.heap) (hbl : b < s.heap.size) (hbA : ¬ A b) (h1 : vp_in (i + 1) L) (h2 : vp_in (i + 2) L) (h3 : vp_in (i + 3) L) (h4 : vp_in (i + 4) L) (hI : INV gGo gFo gPk qPk gSk gAi gSh gJo o) (hP : va_P D vwCl ((wCc xCc cI cZ xGo xFo xPk xSk xAi xSh xJo gGo gFo gPk qPk gSk gAi gSh gJo ++ ([(xo, .inl (cJ, 1, .inr (.inl q)))] : va_W)) ++ wMo xMo cI cZ o) H) (hD : va_D A ((wCc xCc cI cZ xGo xFo xPk xSk xAi xSh xJo gGo gFo gPk qPk gSk gAi gSh gJo ++ ([(xo, .inl (cJ, 1, .inr (.inl q)))] : va_W)) ++ wMo xMo cI cZ o)) (hS : va_S A s.heap H locs) (hl : lv_has ls 7 [(4, .int i), (3, .ref xo), (2, .ref (xMo 0)), (1, .ref xCc), (0, .ref b)]) (hcs : cells + 1 ≤ room_1.cells ∧ slots + 6 ≤ room_1.slots)
    (kk : ∀ (gGo1 : St) (gFo1 : St) (gPk1 : St) (qPk1 : Int64) (gSk1 : St) (gAi1 : St) (gSh1 : St) (gJo1 : St) (q1 : Nat → Int64) (o1 : St) (H1 : Heap) (locs1 : List Loc) (ls1 : Array Slot), INV gGo1 gFo1 gPk1 qPk1 gSk1 gAi1 gSh1 gJo1 o1 → va_P D vwCl ((wCc xCc cI cZ xGo xFo xPk xSk xAi xSh xJo gGo1 gFo1 gPk1 qPk1 gSk1 gAi1 gSh1 gJo1 ++ ([(xo, .inl (cJ, 1, .inr (.inl q1)))] : va_W)) ++ wMo xMo cI cZ o1) H1 → va_D A ((wCc xCc cI cZ xGo xFo xPk xSk xAi xSh xJo gGo1 gFo1 gPk1 qPk1 gSk1 gAi1 gSh1 gJo1 ++ ([(xo, .inl (cJ, 1, .inr (.inl q1)))] : va_W)) ++ wMo xMo cI cZ o1) → va_S A s.heap H1 locs1 → lv_has ls1 7 [(4, .int i), (3, .ref xo), (2, .ref (xMo 0)), (1, .ref xCc), (0, .ref b)] → W p l e room_1 s m args below meth c H1 locs1 (cells + 1) (slots + 6) Q (F0 m 1629 ls1 [])) : W p l e room_1 s m args below meth c H locs cells slots Q (F0 m 971 ls []) := by
  obtain ⟨hx, hb, -, hown, hts, hK, hE, -⟩ := id C0
  refine lv_aload_n hx hb d_law_971 rfl (lv_at hl 3 rfl) ?_
  refine lv_aload_n hx hb d_law_972 rfl (lv_at hl 4 rfl) ?_
  refine lv_iload hx hb d_law_973 (lv_at hl 0 rfl) ?_
  refine lv_iconst (v := 1) hx hb d_law_975 (by decide) ?_
  refine lv_iadd hx hb d_law_976 ?_
  refine va_sld hx hb hX hbl hbA hS h1 d_law_977 ?_
  refine lv_aload_n hx hb d_law_978 rfl (lv_at hl 1 rfl) ?_
  obtain ⟨k, r, gSk1, q1, o1, hM, hm, ht, hq, hI1⟩ := g_free (l := l) (D := D) (cJ := cJ) (xCc := xCc) (xGo := xGo) (xFo := xFo) (xPk := xPk) (xSk := xSk) (xAi := xAi) (xSh := xSh) (xJo := xJo) (cI := cI) (cZ := cZ) (xo := xo) (q := q) hltr hI (xs (i + 1).toNatClampNeg)
  refine cW (ws' := (wCc xCc cI cZ xGo xFo xPk xSk xAi xSh xJo gGo gFo gPk qPk gSk1 gAi gSh gJo ++ ([(xo, .inl (cJ, 1, .inr (.inl q1)))] : va_W)) ++ wMo xMo cI cZ o) (As := [.ref xCc, .int (xs (i + 1).toNatClampNeg), .ref xo]) (rest := []) C0 hP hD hS hl.1 [0, 1, 2, 3, 4, 5, 6, 7, 8, 9, 10, 11, 12, 13, 14, 15, 16, 17, 18, 19, 20, 21, 22, 23, 24, 25, 26, 27, 28] (hM H.size) kw_free m_553 (C_pre rfl) rfl rfl (rp_pre rfl rfl) ⟨by decide, by decide⟩ ⟨rfl, rfl⟩ rfl (Nat.le_of_ble_eq_true rfl) d_law_979 hcs (fun H locs hP hD hS => ?_)
  refine lv_istore (lv' := [(5, .int k), (4, .int i), (3, .ref xo), (2, .ref (xMo 0)), (1, .ref xCc), (0, .ref b)]) hx hb d_law_982 hl (by decide) rfl (fun ls hl => ?_)
  refine lv_aload_n hx hb d_law_984 rfl (lv_at hl 3 rfl) ?_
  refine lv_aload_n hx hb d_law_985 rfl (lv_at hl 5 rfl) ?_
  refine lv_iload hx hb d_law_986 (lv_at hl 1 rfl) ?_
  refine lv_iconst (v := 1) hx hb d_law_988 (by decide) ?_
  refine lv_iadd hx hb d_law_989 ?_
  refine va_sld hx hb hX hbl hbA hS h1 d_law_990 ?_
  refine cVi (ws' := (wCc xCc cI cZ xGo xFo xPk xSk xAi xSh xJo gGo gFo gPk qPk gSk1 gAi gSh gJo ++ ([(xo, .inl (cJ, 1, .inr (.inl q1)))] : va_W)) ++ wMo xMo cI cZ o1) (As := [.int (xs (i + 1).toNatClampNeg)]) (rest := []) C0 hP hD hS hl.1 [29, 30, 31, 32, 33, 34, 35, 36, 37, 38, 39, 40, 41, 42, 43, 44] (c_Mo_free_r l D cI cZ cJ xMo H.size o (xs (i + 1).toNatClampNeg) r o1 hm) k_Mo_free m_897 rfl rfl (C_suf rfl) rfl rfl (rp_suf rfl rfl) ⟨by decide, by decide⟩ ⟨rfl, rfl⟩ rfl (Nat.le_of_ble_eq_true rfl) d_law_991 ⟨hcs.1, hcs.2⟩ (fun H locs hP hD hS => ?_)
  refine lv_istore (lv' := [(6, .int r), (5, .int k), (4, .int i), (3, .ref xo), (2, .ref (xMo 0)), (1, .ref xCc), (0, .ref b)]) hx hb d_law_994 hl (by decide) rfl (fun ls hl => ?_)
  refine lv_aload_n hx hb d_law_996 rfl (lv_at hl 4 rfl) ?_
  refine cVi (ws' := (wCc xCc cI cZ xGo xFo xPk xSk xAi xSh xJo gGo gFo gPk qPk gSk1 gAi gSh gJo ++ ([(xo, .inl (cJ, 1, .inr (.inl q1)))] : va_W)) ++ wMo xMo cI cZ o1) (As := []) (rest := []) C0 hP hD hS hl.1 [29, 30, 31, 32, 33, 34, 35, 36, 37, 38, 39, 40, 41, 42, 43, 44] (c_Mo_thrown_r l D cI cZ cJ xMo H.size o1 (o1 0 0) rfl) k_Mo_thrown m_798 rfl rfl (C_suf rfl) rfl rfl (rp_same (C_suf rfl)) ⟨by decide, by decide⟩ ⟨rfl, rfl⟩ rfl (Nat.le_of_ble_eq_true rfl) d_law_997 ⟨hcs.1, hcs.2⟩ (fun H locs hP hD hS => ?_)
  refine lv_iload hx hb d_law_1000 (lv_at hl 1 rfl) ?_
  refine lv_icmp_eq (tgt := 1007) hx hb d_law_1002 (by decide) (fun _ => ?_) (fun hne => absurd ht hne)
  refine lv_iload hx hb d_law_1007 (lv_at hl 1 rfl) ?_
  have fin : W p l e room_1 s m args below meth c H locs (cells + 1) (slots + 6) Q (F0 m 1031 ls []) := by
    refine lv_goto (tgt := 1629) hx hb d_law_1031 (by decide) ?_
    exact kk gGo gFo gPk qPk gSk1 gAi gSh gJo q1 o1 H locs ls hI1 hP hD hS (lv_sub hl [2, 3, 4, 5, 6] rfl)
  refine lv_if_ne (tgt := 1031) hx hb d_law_1009 (by decide) (fun _ => fin) (fun hk0 => ?_)
  refine lv_aload_n hx hb d_law_1012 rfl (lv_at hl 3 rfl) ?_
  refine lv_iconst (v := 0) hx hb d_law_1013 (by decide) ?_
  refine va_lald hx hb hK hP 28 2 rfl rfl (inb_in (by decide)) d_law_1014 ?_
  refine lv_iload hx hb d_law_1015 (lv_at hl 0 rfl) ?_
  have cmp : W p l e room_1 s m args below meth c H locs (cells + 1) (slots + 6) Q (F0 m 1025 ls [.long (bz r), .long (q1 (0 : Int32).toNatClampNeg)]) := by
    refine W.lcmp hx hb d_law_1025 ?_
    refine lv_if_eq (tgt := 1031) hx hb d_law_1026 (by decide) (fun _ => fin) (fun hne => absurd (by rw [hq hk0]; exact lg_self _) hne)
  refine lv_if_eq (tgt := 1024) hx hb d_law_1017 (by decide) (fun hz => ?_) (fun hz => ?_)
  · refine lv_lconst (v := 0) hx hb d_law_1024 (by decide) ?_
    have e0 : bz r = 0 := if_pos hz
    rw [e0] at cmp
    exact cmp
  · refine lv_lconst (v := 1) hx hb d_law_1020 (by decide) ?_
    refine lv_goto (tgt := 1025) hx hb d_law_1021 (by decide) ?_
    have e0 : bz r = 1 := if_neg hz
    rw [e0] at cmp
    exact cmp
set_option maxRecDepth 100000 in
set_option maxHeartbeats 4000000 in
theorem lw_split {p : Program} {l : Launch} {e : Env} {s : State} {m : MethodId} {args : Array Value} {below : List Frame} {meth : Method} {c : Code} {H : Heap} {locs : List Loc} {cells slots : Nat} {Q : State → Prop} (hltr : l.stackTraces = false) {D : va_G} {cI cZ cJ : ClassId} {A : Nat → Prop} {xCc : Nat} {xGo : Nat → Nat} {xFo : Nat → Nat} {xPk : Nat → Nat} {xSk : Nat → Nat} {xAi : Nat → Nat} {xSh : Nat → Nat} {xJo : Nat → Nat} {xo : Nat} {xMo : Nat → Nat} {gGo : St} {gFo : St} {gPk : St} {qPk : Int64} {gSk : St} {gAi : St} {gSh : St} {gJo : St} {q : Nat → Int64} {o : St} {b L : Nat} {xs : Nat → Int32} {i : Int32} {ls : Array Slot} (C0 : CX p s m args c R_La code 7 D (TYS cI cZ cJ) A) (hX : va_X b L xs s s.heap) (hbl : b < s.heap.size) (hbA : ¬ A b) (h1 : vp_in (i + 1) L) (h2 : vp_in (i + 2) L) (h3 : vp_in (i + 3) L) (h4 : vp_in (i + 4) L) (hI : INV gGo gFo gPk qPk gSk gAi gSh gJo o) (hP : va_P D vwCl ((wCc xCc cI cZ xGo xFo xPk xSk xAi xSh xJo gGo gFo gPk qPk gSk gAi gSh gJo ++ ([(xo, .inl (cJ, 1, .inr (.inl q)))] : va_W)) ++ wMo xMo cI cZ o) H) (hD : va_D A ((wCc xCc cI cZ xGo xFo xPk xSk xAi xSh xJo gGo gFo gPk qPk gSk gAi gSh gJo ++ ([(xo, .inl (cJ, 1, .inr (.inl q)))] : va_W)) ++ wMo xMo cI cZ o)) (hS : va_S A s.heap H locs) (hl : lv_has ls 7 [(4, .int i), (3, .ref xo), (2, .ref (xMo 0)), (1, .ref xCc), (0, .ref b)]) (hcs : cells + 1 ≤ room_1.cells ∧ slots + 6 ≤ room_1.slots)
    (kk : ∀ (gGo1 : St) (gFo1 : St) (gPk1 : St) (qPk1 : Int64) (gSk1 : St) (gAi1 : St) (gSh1 : St) (gJo1 : St) (q1 : Nat → Int64) (o1 : St) (H1 : Heap) (locs1 : List Loc) (ls1 : Array Slot), INV gGo1 gFo1 gPk1 qPk1 gSk1 gAi1 gSh1 gJo1 o1 → va_P D vwCl ((wCc xCc cI cZ xGo xFo xPk xSk xAi xSh xJo gGo1 gFo1 gPk1 qPk1 gSk1 gAi1 gSh1 gJo1 ++ ([(xo, .inl (cJ, 1, .inr (.inl q1)))] : va_W)) ++ wMo xMo cI cZ o1) H1 → va_D A ((wCc xCc cI cZ xGo xFo xPk xSk xAi xSh xJo gGo1 gFo1 gPk1 qPk1 gSk1 gAi1 gSh1 gJo1 ++ ([(xo, .inl (cJ, 1, .inr (.inl q1)))] : va_W)) ++ wMo xMo cI cZ o1) → va_S A s.heap H1 locs1 → lv_has ls1 7 [(4, .int i), (3, .ref xo), (2, .ref (xMo 0)), (1, .ref xCc), (0, .ref b)] → W p l e room_1 s m args below meth c H1 locs1 (cells + 1) (slots + 6) Q (F0 m 1629 ls1 [])) : W p l e room_1 s m args below meth c H locs cells slots Q (F0 m 1034 ls []) := by
  obtain ⟨hx, hb, -, hown, hts, hK, hE, -⟩ := id C0
  refine lv_aload_n hx hb d_law_1034 rfl (lv_at hl 3 rfl) ?_
  refine lv_aload_n hx hb d_law_1035 rfl (lv_at hl 4 rfl) ?_
  refine lv_iload hx hb d_law_1036 (lv_at hl 0 rfl) ?_
  refine lv_iconst (v := 1) hx hb d_law_1038 (by decide) ?_
  refine lv_iadd hx hb d_law_1039 ?_
  refine va_sld hx hb hX hbl hbA hS h1 d_law_1040 ?_
  refine lv_aload_n hx hb d_law_1041 rfl (lv_at hl 1 rfl) ?_
  obtain ⟨k, r, gGo1, q1, o1, hM, hm, ht, hq, hI1⟩ := g_split (l := l) (D := D) (cJ := cJ) (xCc := xCc) (xGo := xGo) (xFo := xFo) (xPk := xPk) (xSk := xSk) (xAi := xAi) (xSh := xSh) (xJo := xJo) (cI := cI) (cZ := cZ) (xo := xo) (q := q) hltr hI (xs (i + 1).toNatClampNeg)
  refine cW (ws' := (wCc xCc cI cZ xGo xFo xPk xSk xAi xSh xJo gGo1 gFo gPk qPk gSk gAi gSh gJo ++ ([(xo, .inl (cJ, 1, .inr (.inl q1)))] : va_W)) ++ wMo xMo cI cZ o) (As := [.ref xCc, .int (xs (i + 1).toNatClampNeg), .ref xo]) (rest := []) C0 hP hD hS hl.1 [0, 1, 2, 3, 4, 5, 6, 7, 8, 9, 10, 11, 12, 13, 14, 15, 16, 17, 18, 19, 20, 21, 22, 23, 24, 25, 26, 27, 28] (hM H.size) kw_split m_565 (C_pre rfl) rfl rfl (rp_pre rfl rfl) ⟨by decide, by decide⟩ ⟨rfl, rfl⟩ rfl (Nat.le_of_ble_eq_true rfl) d_law_1042 hcs (fun H locs hP hD hS => ?_)
  refine lv_istore (lv' := [(5, .int k), (4, .int i), (3, .ref xo), (2, .ref (xMo 0)), (1, .ref xCc), (0, .ref b)]) hx hb d_law_1045 hl (by decide) rfl (fun ls hl => ?_)
  refine lv_aload_n hx hb d_law_1047 rfl (lv_at hl 3 rfl) ?_
  refine lv_aload_n hx hb d_law_1048 rfl (lv_at hl 5 rfl) ?_
  refine lv_iload hx hb d_law_1049 (lv_at hl 1 rfl) ?_
  refine lv_iconst (v := 1) hx hb d_law_1051 (by decide) ?_
  refine lv_iadd hx hb d_law_1052 ?_
  refine va_sld hx hb hX hbl hbA hS h1 d_law_1053 ?_
  refine cVi (ws' := (wCc xCc cI cZ xGo xFo xPk xSk xAi xSh xJo gGo1 gFo gPk qPk gSk gAi gSh gJo ++ ([(xo, .inl (cJ, 1, .inr (.inl q1)))] : va_W)) ++ wMo xMo cI cZ o1) (As := [.int (xs (i + 1).toNatClampNeg)]) (rest := []) C0 hP hD hS hl.1 [29, 30, 31, 32, 33, 34, 35, 36, 37, 38, 39, 40, 41, 42, 43, 44] (c_Mo_split_r l D cI cZ cJ xMo H.size o (xs (i + 1).toNatClampNeg) r o1 hm) k_Mo_split m_901 rfl rfl (C_suf rfl) rfl rfl (rp_suf rfl rfl) ⟨by decide, by decide⟩ ⟨rfl, rfl⟩ rfl (Nat.le_of_ble_eq_true rfl) d_law_1054 ⟨hcs.1, hcs.2⟩ (fun H locs hP hD hS => ?_)
  refine lv_istore (lv' := [(6, .int r), (5, .int k), (4, .int i), (3, .ref xo), (2, .ref (xMo 0)), (1, .ref xCc), (0, .ref b)]) hx hb d_law_1057 hl (by decide) rfl (fun ls hl => ?_)
  refine lv_aload_n hx hb d_law_1059 rfl (lv_at hl 4 rfl) ?_
  refine cVi (ws' := (wCc xCc cI cZ xGo xFo xPk xSk xAi xSh xJo gGo1 gFo gPk qPk gSk gAi gSh gJo ++ ([(xo, .inl (cJ, 1, .inr (.inl q1)))] : va_W)) ++ wMo xMo cI cZ o1) (As := []) (rest := []) C0 hP hD hS hl.1 [29, 30, 31, 32, 33, 34, 35, 36, 37, 38, 39, 40, 41, 42, 43, 44] (c_Mo_thrown_r l D cI cZ cJ xMo H.size o1 (o1 0 0) rfl) k_Mo_thrown m_798 rfl rfl (C_suf rfl) rfl rfl (rp_same (C_suf rfl)) ⟨by decide, by decide⟩ ⟨rfl, rfl⟩ rfl (Nat.le_of_ble_eq_true rfl) d_law_1060 ⟨hcs.1, hcs.2⟩ (fun H locs hP hD hS => ?_)
  refine lv_iload hx hb d_law_1063 (lv_at hl 1 rfl) ?_
  refine lv_icmp_eq (tgt := 1070) hx hb d_law_1065 (by decide) (fun _ => ?_) (fun hne => absurd ht hne)
  refine lv_iload hx hb d_law_1070 (lv_at hl 1 rfl) ?_
  have fin : W p l e room_1 s m args below meth c H locs (cells + 1) (slots + 6) Q (F0 m 1087 ls []) := by
    refine lv_goto (tgt := 1629) hx hb d_law_1087 (by decide) ?_
    exact kk gGo1 gFo gPk qPk gSk gAi gSh gJo q1 o1 H locs ls hI1 hP hD hS (lv_sub hl [2, 3, 4, 5, 6] rfl)
  refine lv_if_ne (tgt := 1087) hx hb d_law_1072 (by decide) (fun _ => fin) (fun hk0 => ?_)
  refine lv_aload_n hx hb d_law_1075 rfl (lv_at hl 3 rfl) ?_
  refine lv_iconst (v := 0) hx hb d_law_1076 (by decide) ?_
  refine va_lald hx hb hK hP 28 2 rfl rfl (inb_in (by decide)) d_law_1077 ?_
  refine lv_iload hx hb d_law_1078 (lv_at hl 0 rfl) ?_
  refine lv_i2l (v := r.toInt64) hx hb d_law_1080 rfl ?_
  refine W.lcmp hx hb d_law_1081 ?_
  refine lv_if_eq (tgt := 1087) hx hb d_law_1082 (by decide) (fun _ => fin) (fun hne => absurd (by rw [hq hk0]; exact lg_self _) hne)
set_option maxRecDepth 100000 in
set_option maxHeartbeats 4000000 in
theorem lw_lag {p : Program} {l : Launch} {e : Env} {s : State} {m : MethodId} {args : Array Value} {below : List Frame} {meth : Method} {c : Code} {H : Heap} {locs : List Loc} {cells slots : Nat} {Q : State → Prop} (hltr : l.stackTraces = false) {D : va_G} {cI cZ cJ : ClassId} {A : Nat → Prop} {xCc : Nat} {xGo : Nat → Nat} {xFo : Nat → Nat} {xPk : Nat → Nat} {xSk : Nat → Nat} {xAi : Nat → Nat} {xSh : Nat → Nat} {xJo : Nat → Nat} {xo : Nat} {xMo : Nat → Nat} {gGo : St} {gFo : St} {gPk : St} {qPk : Int64} {gSk : St} {gAi : St} {gSh : St} {gJo : St} {q : Nat → Int64} {o : St} {b L : Nat} {xs : Nat → Int32} {i : Int32} {ls : Array Slot} (C0 : CX p s m args c R_La code 7 D (TYS cI cZ cJ) A) (hX : va_X b L xs s s.heap) (hbl : b < s.heap.size) (hbA : ¬ A b) (h1 : vp_in (i + 1) L) (h2 : vp_in (i + 2) L) (h3 : vp_in (i + 3) L) (h4 : vp_in (i + 4) L) (hI : INV gGo gFo gPk qPk gSk gAi gSh gJo o) (hP : va_P D vwCl ((wCc xCc cI cZ xGo xFo xPk xSk xAi xSh xJo gGo gFo gPk qPk gSk gAi gSh gJo ++ ([(xo, .inl (cJ, 1, .inr (.inl q)))] : va_W)) ++ wMo xMo cI cZ o) H) (hD : va_D A ((wCc xCc cI cZ xGo xFo xPk xSk xAi xSh xJo gGo gFo gPk qPk gSk gAi gSh gJo ++ ([(xo, .inl (cJ, 1, .inr (.inl q)))] : va_W)) ++ wMo xMo cI cZ o)) (hS : va_S A s.heap H locs) (hl : lv_has ls 7 [(4, .int i), (3, .ref xo), (2, .ref (xMo 0)), (1, .ref xCc), (0, .ref b)]) (hcs : cells + 1 ≤ room_1.cells ∧ slots + 6 ≤ room_1.slots)
    (kk : ∀ (gGo1 : St) (gFo1 : St) (gPk1 : St) (qPk1 : Int64) (gSk1 : St) (gAi1 : St) (gSh1 : St) (gJo1 : St) (q1 : Nat → Int64) (o1 : St) (H1 : Heap) (locs1 : List Loc) (ls1 : Array Slot), INV gGo1 gFo1 gPk1 qPk1 gSk1 gAi1 gSh1 gJo1 o1 → va_P D vwCl ((wCc xCc cI cZ xGo xFo xPk xSk xAi xSh xJo gGo1 gFo1 gPk1 qPk1 gSk1 gAi1 gSh1 gJo1 ++ ([(xo, .inl (cJ, 1, .inr (.inl q1)))] : va_W)) ++ wMo xMo cI cZ o1) H1 → va_D A ((wCc xCc cI cZ xGo xFo xPk xSk xAi xSh xJo gGo1 gFo1 gPk1 qPk1 gSk1 gAi1 gSh1 gJo1 ++ ([(xo, .inl (cJ, 1, .inr (.inl q1)))] : va_W)) ++ wMo xMo cI cZ o1) → va_S A s.heap H1 locs1 → lv_has ls1 7 [(4, .int i), (3, .ref xo), (2, .ref (xMo 0)), (1, .ref xCc), (0, .ref b)] → W p l e room_1 s m args below meth c H1 locs1 (cells + 1) (slots + 6) Q (F0 m 1629 ls1 [])) : W p l e room_1 s m args below meth c H locs cells slots Q (F0 m 1090 ls []) := by
  obtain ⟨hx, hb, -, hown, hts, hK, hE, -⟩ := id C0
  refine lv_aload_n hx hb d_law_1090 rfl (lv_at hl 3 rfl) ?_
  refine lv_aload_n hx hb d_law_1091 rfl (lv_at hl 4 rfl) ?_
  refine lv_iload hx hb d_law_1092 (lv_at hl 0 rfl) ?_
  refine lv_iconst (v := 1) hx hb d_law_1094 (by decide) ?_
  refine lv_iadd hx hb d_law_1095 ?_
  refine va_sld hx hb hX hbl hbA hS h1 d_law_1096 ?_
  refine lv_aload_n hx hb d_law_1097 rfl (lv_at hl 1 rfl) ?_
  obtain ⟨k, r, gAi1, q1, o1, hM, hm, ht, hq, hI1⟩ := g_lag (l := l) (D := D) (cJ := cJ) (xCc := xCc) (xGo := xGo) (xFo := xFo) (xPk := xPk) (xSk := xSk) (xAi := xAi) (xSh := xSh) (xJo := xJo) (cI := cI) (cZ := cZ) (xo := xo) (q := q) hltr hI (xs (i + 1).toNatClampNeg)
  refine cW (ws' := (wCc xCc cI cZ xGo xFo xPk xSk xAi xSh xJo gGo gFo gPk qPk gSk gAi1 gSh gJo ++ ([(xo, .inl (cJ, 1, .inr (.inl q1)))] : va_W)) ++ wMo xMo cI cZ o) (As := [.ref xCc, .int (xs (i + 1).toNatClampNeg), .ref xo]) (rest := []) C0 hP hD hS hl.1 [0, 1, 2, 3, 4, 5, 6, 7, 8, 9, 10, 11, 12, 13, 14, 15, 16, 17, 18, 19, 20, 21, 22, 23, 24, 25, 26, 27, 28] (hM H.size) kw_lag m_583 (C_pre rfl) rfl rfl (rp_pre rfl rfl) ⟨by decide, by decide⟩ ⟨rfl, rfl⟩ rfl (Nat.le_of_ble_eq_true rfl) d_law_1098 hcs (fun H locs hP hD hS => ?_)
  refine lv_istore (lv' := [(5, .int k), (4, .int i), (3, .ref xo), (2, .ref (xMo 0)), (1, .ref xCc), (0, .ref b)]) hx hb d_law_1101 hl (by decide) rfl (fun ls hl => ?_)
  refine lv_aload_n hx hb d_law_1103 rfl (lv_at hl 3 rfl) ?_
  refine lv_aload_n hx hb d_law_1104 rfl (lv_at hl 5 rfl) ?_
  refine lv_iload hx hb d_law_1105 (lv_at hl 1 rfl) ?_
  refine lv_iconst (v := 1) hx hb d_law_1107 (by decide) ?_
  refine lv_iadd hx hb d_law_1108 ?_
  refine va_sld hx hb hX hbl hbA hS h1 d_law_1109 ?_
  refine cVi (ws' := (wCc xCc cI cZ xGo xFo xPk xSk xAi xSh xJo gGo gFo gPk qPk gSk gAi1 gSh gJo ++ ([(xo, .inl (cJ, 1, .inr (.inl q1)))] : va_W)) ++ wMo xMo cI cZ o1) (As := [.int (xs (i + 1).toNatClampNeg)]) (rest := []) C0 hP hD hS hl.1 [29, 30, 31, 32, 33, 34, 35, 36, 37, 38, 39, 40, 41, 42, 43, 44] (c_Mo_lag_r l D cI cZ cJ xMo H.size o (xs (i + 1).toNatClampNeg) r o1 hm) k_Mo_lag m_909 rfl rfl (C_suf rfl) rfl rfl (rp_suf rfl rfl) ⟨by decide, by decide⟩ ⟨rfl, rfl⟩ rfl (Nat.le_of_ble_eq_true rfl) d_law_1110 ⟨hcs.1, hcs.2⟩ (fun H locs hP hD hS => ?_)
  refine lv_istore (lv' := [(6, .int r), (5, .int k), (4, .int i), (3, .ref xo), (2, .ref (xMo 0)), (1, .ref xCc), (0, .ref b)]) hx hb d_law_1113 hl (by decide) rfl (fun ls hl => ?_)
  refine lv_aload_n hx hb d_law_1115 rfl (lv_at hl 4 rfl) ?_
  refine cVi (ws' := (wCc xCc cI cZ xGo xFo xPk xSk xAi xSh xJo gGo gFo gPk qPk gSk gAi1 gSh gJo ++ ([(xo, .inl (cJ, 1, .inr (.inl q1)))] : va_W)) ++ wMo xMo cI cZ o1) (As := []) (rest := []) C0 hP hD hS hl.1 [29, 30, 31, 32, 33, 34, 35, 36, 37, 38, 39, 40, 41, 42, 43, 44] (c_Mo_thrown_r l D cI cZ cJ xMo H.size o1 (o1 0 0) rfl) k_Mo_thrown m_798 rfl rfl (C_suf rfl) rfl rfl (rp_same (C_suf rfl)) ⟨by decide, by decide⟩ ⟨rfl, rfl⟩ rfl (Nat.le_of_ble_eq_true rfl) d_law_1116 ⟨hcs.1, hcs.2⟩ (fun H locs hP hD hS => ?_)
  refine lv_iload hx hb d_law_1119 (lv_at hl 1 rfl) ?_
  refine lv_icmp_eq (tgt := 1126) hx hb d_law_1121 (by decide) (fun _ => ?_) (fun hne => absurd ht hne)
  refine lv_iload hx hb d_law_1126 (lv_at hl 1 rfl) ?_
  have fin : W p l e room_1 s m args below meth c H locs (cells + 1) (slots + 6) Q (F0 m 1143 ls []) := by
    refine lv_goto (tgt := 1629) hx hb d_law_1143 (by decide) ?_
    exact kk gGo gFo gPk qPk gSk gAi1 gSh gJo q1 o1 H locs ls hI1 hP hD hS (lv_sub hl [2, 3, 4, 5, 6] rfl)
  refine lv_if_ne (tgt := 1143) hx hb d_law_1128 (by decide) (fun _ => fin) (fun hk0 => ?_)
  refine lv_aload_n hx hb d_law_1131 rfl (lv_at hl 3 rfl) ?_
  refine lv_iconst (v := 0) hx hb d_law_1132 (by decide) ?_
  refine va_lald hx hb hK hP 28 2 rfl rfl (inb_in (by decide)) d_law_1133 ?_
  refine lv_iload hx hb d_law_1134 (lv_at hl 0 rfl) ?_
  refine lv_i2l (v := r.toInt64) hx hb d_law_1136 rfl ?_
  refine W.lcmp hx hb d_law_1137 ?_
  refine lv_if_eq (tgt := 1143) hx hb d_law_1138 (by decide) (fun _ => fin) (fun hne => absurd (by rw [hq hk0]; exact lg_self _) hne)
set_option maxRecDepth 100000 in
set_option maxHeartbeats 4000000 in
theorem lw_climate {p : Program} {l : Launch} {e : Env} {s : State} {m : MethodId} {args : Array Value} {below : List Frame} {meth : Method} {c : Code} {H : Heap} {locs : List Loc} {cells slots : Nat} {Q : State → Prop} (hltr : l.stackTraces = false) {D : va_G} {cI cZ cJ : ClassId} {A : Nat → Prop} {xCc : Nat} {xGo : Nat → Nat} {xFo : Nat → Nat} {xPk : Nat → Nat} {xSk : Nat → Nat} {xAi : Nat → Nat} {xSh : Nat → Nat} {xJo : Nat → Nat} {xo : Nat} {xMo : Nat → Nat} {gGo : St} {gFo : St} {gPk : St} {qPk : Int64} {gSk : St} {gAi : St} {gSh : St} {gJo : St} {q : Nat → Int64} {o : St} {b L : Nat} {xs : Nat → Int32} {i : Int32} {ls : Array Slot} (C0 : CX p s m args c R_La code 7 D (TYS cI cZ cJ) A) (hX : va_X b L xs s s.heap) (hbl : b < s.heap.size) (hbA : ¬ A b) (h1 : vp_in (i + 1) L) (h2 : vp_in (i + 2) L) (h3 : vp_in (i + 3) L) (h4 : vp_in (i + 4) L) (hI : INV gGo gFo gPk qPk gSk gAi gSh gJo o) (hP : va_P D vwCl ((wCc xCc cI cZ xGo xFo xPk xSk xAi xSh xJo gGo gFo gPk qPk gSk gAi gSh gJo ++ ([(xo, .inl (cJ, 1, .inr (.inl q)))] : va_W)) ++ wMo xMo cI cZ o) H) (hD : va_D A ((wCc xCc cI cZ xGo xFo xPk xSk xAi xSh xJo gGo gFo gPk qPk gSk gAi gSh gJo ++ ([(xo, .inl (cJ, 1, .inr (.inl q)))] : va_W)) ++ wMo xMo cI cZ o)) (hS : va_S A s.heap H locs) (hl : lv_has ls 7 [(4, .int i), (3, .ref xo), (2, .ref (xMo 0)), (1, .ref xCc), (0, .ref b)]) (hcs : cells + 1 ≤ room_1.cells ∧ slots + 6 ≤ room_1.slots)
    (kk : ∀ (gGo1 : St) (gFo1 : St) (gPk1 : St) (qPk1 : Int64) (gSk1 : St) (gAi1 : St) (gSh1 : St) (gJo1 : St) (q1 : Nat → Int64) (o1 : St) (H1 : Heap) (locs1 : List Loc) (ls1 : Array Slot), INV gGo1 gFo1 gPk1 qPk1 gSk1 gAi1 gSh1 gJo1 o1 → va_P D vwCl ((wCc xCc cI cZ xGo xFo xPk xSk xAi xSh xJo gGo1 gFo1 gPk1 qPk1 gSk1 gAi1 gSh1 gJo1 ++ ([(xo, .inl (cJ, 1, .inr (.inl q1)))] : va_W)) ++ wMo xMo cI cZ o1) H1 → va_D A ((wCc xCc cI cZ xGo xFo xPk xSk xAi xSh xJo gGo1 gFo1 gPk1 qPk1 gSk1 gAi1 gSh1 gJo1 ++ ([(xo, .inl (cJ, 1, .inr (.inl q1)))] : va_W)) ++ wMo xMo cI cZ o1) → va_S A s.heap H1 locs1 → lv_has ls1 7 [(4, .int i), (3, .ref xo), (2, .ref (xMo 0)), (1, .ref xCc), (0, .ref b)] → W p l e room_1 s m args below meth c H1 locs1 (cells + 1) (slots + 6) Q (F0 m 1629 ls1 [])) : W p l e room_1 s m args below meth c H locs cells slots Q (F0 m 1146 ls []) := by
  obtain ⟨hx, hb, -, hown, hts, hK, hE, -⟩ := id C0
  refine lv_aload_n hx hb d_law_1146 rfl (lv_at hl 3 rfl) ?_
  refine lv_aload_n hx hb d_law_1147 rfl (lv_at hl 4 rfl) ?_
  refine lv_iload hx hb d_law_1148 (lv_at hl 0 rfl) ?_
  refine lv_iconst (v := 1) hx hb d_law_1150 (by decide) ?_
  refine lv_iadd hx hb d_law_1151 ?_
  refine va_sld hx hb hX hbl hbA hS h1 d_law_1152 ?_
  refine lv_aload_n hx hb d_law_1153 rfl (lv_at hl 1 rfl) ?_
  obtain ⟨k, r, gAi1, q1, o1, hM, hm, ht, hq, hI1⟩ := g_climate (l := l) (D := D) (cJ := cJ) (xCc := xCc) (xGo := xGo) (xFo := xFo) (xPk := xPk) (xSk := xSk) (xAi := xAi) (xSh := xSh) (xJo := xJo) (cI := cI) (cZ := cZ) (xo := xo) (q := q) hltr hI (xs (i + 1).toNatClampNeg)
  refine cW (ws' := (wCc xCc cI cZ xGo xFo xPk xSk xAi xSh xJo gGo gFo gPk qPk gSk gAi1 gSh gJo ++ ([(xo, .inl (cJ, 1, .inr (.inl q1)))] : va_W)) ++ wMo xMo cI cZ o) (As := [.ref xCc, .int (xs (i + 1).toNatClampNeg), .ref xo]) (rest := []) C0 hP hD hS hl.1 [0, 1, 2, 3, 4, 5, 6, 7, 8, 9, 10, 11, 12, 13, 14, 15, 16, 17, 18, 19, 20, 21, 22, 23, 24, 25, 26, 27, 28] (hM H.size) kw_climate m_595 (C_pre rfl) rfl rfl (rp_pre rfl rfl) ⟨by decide, by decide⟩ ⟨rfl, rfl⟩ rfl (Nat.le_of_ble_eq_true rfl) d_law_1154 hcs (fun H locs hP hD hS => ?_)
  refine lv_istore (lv' := [(5, .int k), (4, .int i), (3, .ref xo), (2, .ref (xMo 0)), (1, .ref xCc), (0, .ref b)]) hx hb d_law_1157 hl (by decide) rfl (fun ls hl => ?_)
  refine lv_aload_n hx hb d_law_1159 rfl (lv_at hl 3 rfl) ?_
  refine lv_aload_n hx hb d_law_1160 rfl (lv_at hl 5 rfl) ?_
  refine lv_iload hx hb d_law_1161 (lv_at hl 1 rfl) ?_
  refine lv_iconst (v := 1) hx hb d_law_1163 (by decide) ?_
  refine lv_iadd hx hb d_law_1164 ?_
  refine va_sld hx hb hX hbl hbA hS h1 d_law_1165 ?_
  refine cVi (ws' := (wCc xCc cI cZ xGo xFo xPk xSk xAi xSh xJo gGo gFo gPk qPk gSk gAi1 gSh gJo ++ ([(xo, .inl (cJ, 1, .inr (.inl q1)))] : va_W)) ++ wMo xMo cI cZ o1) (As := [.int (xs (i + 1).toNatClampNeg)]) (rest := []) C0 hP hD hS hl.1 [29, 30, 31, 32, 33, 34, 35, 36, 37, 38, 39, 40, 41, 42, 43, 44] (c_Mo_climate_r l D cI cZ cJ xMo H.size o (xs (i + 1).toNatClampNeg) r o1 hm) k_Mo_climate m_913 rfl rfl (C_suf rfl) rfl rfl (rp_suf rfl rfl) ⟨by decide, by decide⟩ ⟨rfl, rfl⟩ rfl (Nat.le_of_ble_eq_true rfl) d_law_1166 ⟨hcs.1, hcs.2⟩ (fun H locs hP hD hS => ?_)
  refine lv_istore (lv' := [(6, .int r), (5, .int k), (4, .int i), (3, .ref xo), (2, .ref (xMo 0)), (1, .ref xCc), (0, .ref b)]) hx hb d_law_1169 hl (by decide) rfl (fun ls hl => ?_)
  refine lv_aload_n hx hb d_law_1171 rfl (lv_at hl 4 rfl) ?_
  refine cVi (ws' := (wCc xCc cI cZ xGo xFo xPk xSk xAi xSh xJo gGo gFo gPk qPk gSk gAi1 gSh gJo ++ ([(xo, .inl (cJ, 1, .inr (.inl q1)))] : va_W)) ++ wMo xMo cI cZ o1) (As := []) (rest := []) C0 hP hD hS hl.1 [29, 30, 31, 32, 33, 34, 35, 36, 37, 38, 39, 40, 41, 42, 43, 44] (c_Mo_thrown_r l D cI cZ cJ xMo H.size o1 (o1 0 0) rfl) k_Mo_thrown m_798 rfl rfl (C_suf rfl) rfl rfl (rp_same (C_suf rfl)) ⟨by decide, by decide⟩ ⟨rfl, rfl⟩ rfl (Nat.le_of_ble_eq_true rfl) d_law_1172 ⟨hcs.1, hcs.2⟩ (fun H locs hP hD hS => ?_)
  refine lv_iload hx hb d_law_1175 (lv_at hl 1 rfl) ?_
  refine lv_icmp_eq (tgt := 1182) hx hb d_law_1177 (by decide) (fun _ => ?_) (fun hne => absurd ht hne)
  refine lv_iload hx hb d_law_1182 (lv_at hl 1 rfl) ?_
  have fin : W p l e room_1 s m args below meth c H locs (cells + 1) (slots + 6) Q (F0 m 1199 ls []) := by
    refine lv_goto (tgt := 1629) hx hb d_law_1199 (by decide) ?_
    exact kk gGo gFo gPk qPk gSk gAi1 gSh gJo q1 o1 H locs ls hI1 hP hD hS (lv_sub hl [2, 3, 4, 5, 6] rfl)
  refine lv_if_ne (tgt := 1199) hx hb d_law_1184 (by decide) (fun _ => fin) (fun hk0 => ?_)
  refine lv_aload_n hx hb d_law_1187 rfl (lv_at hl 3 rfl) ?_
  refine lv_iconst (v := 0) hx hb d_law_1188 (by decide) ?_
  refine va_lald hx hb hK hP 28 2 rfl rfl (inb_in (by decide)) d_law_1189 ?_
  refine lv_iload hx hb d_law_1190 (lv_at hl 0 rfl) ?_
  refine lv_i2l (v := r.toInt64) hx hb d_law_1192 rfl ?_
  refine W.lcmp hx hb d_law_1193 ?_
  refine lv_if_eq (tgt := 1199) hx hb d_law_1194 (by decide) (fun _ => fin) (fun hne => absurd (by rw [hq hk0]; exact lg_self _) hne)
set_option maxRecDepth 100000 in
set_option maxHeartbeats 4000000 in
theorem lw_inside {p : Program} {l : Launch} {e : Env} {s : State} {m : MethodId} {args : Array Value} {below : List Frame} {meth : Method} {c : Code} {H : Heap} {locs : List Loc} {cells slots : Nat} {Q : State → Prop} (hltr : l.stackTraces = false) {D : va_G} {cI cZ cJ : ClassId} {A : Nat → Prop} {xCc : Nat} {xGo : Nat → Nat} {xFo : Nat → Nat} {xPk : Nat → Nat} {xSk : Nat → Nat} {xAi : Nat → Nat} {xSh : Nat → Nat} {xJo : Nat → Nat} {xo : Nat} {xMo : Nat → Nat} {gGo : St} {gFo : St} {gPk : St} {qPk : Int64} {gSk : St} {gAi : St} {gSh : St} {gJo : St} {q : Nat → Int64} {o : St} {b L : Nat} {xs : Nat → Int32} {i : Int32} {ls : Array Slot} (C0 : CX p s m args c R_La code 7 D (TYS cI cZ cJ) A) (hX : va_X b L xs s s.heap) (hbl : b < s.heap.size) (hbA : ¬ A b) (h1 : vp_in (i + 1) L) (h2 : vp_in (i + 2) L) (h3 : vp_in (i + 3) L) (h4 : vp_in (i + 4) L) (hI : INV gGo gFo gPk qPk gSk gAi gSh gJo o) (hP : va_P D vwCl ((wCc xCc cI cZ xGo xFo xPk xSk xAi xSh xJo gGo gFo gPk qPk gSk gAi gSh gJo ++ ([(xo, .inl (cJ, 1, .inr (.inl q)))] : va_W)) ++ wMo xMo cI cZ o) H) (hD : va_D A ((wCc xCc cI cZ xGo xFo xPk xSk xAi xSh xJo gGo gFo gPk qPk gSk gAi gSh gJo ++ ([(xo, .inl (cJ, 1, .inr (.inl q)))] : va_W)) ++ wMo xMo cI cZ o)) (hS : va_S A s.heap H locs) (hl : lv_has ls 7 [(4, .int i), (3, .ref xo), (2, .ref (xMo 0)), (1, .ref xCc), (0, .ref b)]) (hcs : cells + 1 ≤ room_1.cells ∧ slots + 6 ≤ room_1.slots)
    (kk : ∀ (gGo1 : St) (gFo1 : St) (gPk1 : St) (qPk1 : Int64) (gSk1 : St) (gAi1 : St) (gSh1 : St) (gJo1 : St) (q1 : Nat → Int64) (o1 : St) (H1 : Heap) (locs1 : List Loc) (ls1 : Array Slot), INV gGo1 gFo1 gPk1 qPk1 gSk1 gAi1 gSh1 gJo1 o1 → va_P D vwCl ((wCc xCc cI cZ xGo xFo xPk xSk xAi xSh xJo gGo1 gFo1 gPk1 qPk1 gSk1 gAi1 gSh1 gJo1 ++ ([(xo, .inl (cJ, 1, .inr (.inl q1)))] : va_W)) ++ wMo xMo cI cZ o1) H1 → va_D A ((wCc xCc cI cZ xGo xFo xPk xSk xAi xSh xJo gGo1 gFo1 gPk1 qPk1 gSk1 gAi1 gSh1 gJo1 ++ ([(xo, .inl (cJ, 1, .inr (.inl q1)))] : va_W)) ++ wMo xMo cI cZ o1) → va_S A s.heap H1 locs1 → lv_has ls1 7 [(4, .int i), (3, .ref xo), (2, .ref (xMo 0)), (1, .ref xCc), (0, .ref b)] → W p l e room_1 s m args below meth c H1 locs1 (cells + 1) (slots + 6) Q (F0 m 1629 ls1 [])) : W p l e room_1 s m args below meth c H locs cells slots Q (F0 m 1202 ls []) := by
  obtain ⟨hx, hb, -, hown, hts, hK, hE, -⟩ := id C0
  refine lv_aload_n hx hb d_law_1202 rfl (lv_at hl 3 rfl) ?_
  refine lv_aload_n hx hb d_law_1203 rfl (lv_at hl 4 rfl) ?_
  refine lv_iload hx hb d_law_1204 (lv_at hl 0 rfl) ?_
  refine lv_iconst (v := 1) hx hb d_law_1206 (by decide) ?_
  refine lv_iadd hx hb d_law_1207 ?_
  refine va_sld hx hb hX hbl hbA hS h1 d_law_1208 ?_
  refine lv_aload_n hx hb d_law_1209 rfl (lv_at hl 1 rfl) ?_
  obtain ⟨k, r, q1, o1, hM, hm, ht, hq, hI1⟩ := g_inside (l := l) (D := D) (cJ := cJ) (xCc := xCc) (xGo := xGo) (xFo := xFo) (xPk := xPk) (xSk := xSk) (xAi := xAi) (xSh := xSh) (xJo := xJo) (cI := cI) (cZ := cZ) (xo := xo) (q := q) hltr hI (xs (i + 1).toNatClampNeg)
  refine cW (ws' := (wCc xCc cI cZ xGo xFo xPk xSk xAi xSh xJo gGo gFo gPk qPk gSk gAi gSh gJo ++ ([(xo, .inl (cJ, 1, .inr (.inl q1)))] : va_W)) ++ wMo xMo cI cZ o) (As := [.ref xCc, .int (xs (i + 1).toNatClampNeg), .ref xo]) (rest := []) C0 hP hD hS hl.1 [0, 1, 2, 3, 4, 5, 6, 7, 8, 9, 10, 11, 12, 13, 14, 15, 16, 17, 18, 19, 20, 21, 22, 23, 24, 25, 26, 27, 28] (hM H.size) kw_inside m_611 (C_pre rfl) rfl rfl (rp_pre rfl rfl) ⟨by decide, by decide⟩ ⟨rfl, rfl⟩ rfl (Nat.le_of_ble_eq_true rfl) d_law_1210 hcs (fun H locs hP hD hS => ?_)
  refine lv_istore (lv' := [(5, .int k), (4, .int i), (3, .ref xo), (2, .ref (xMo 0)), (1, .ref xCc), (0, .ref b)]) hx hb d_law_1213 hl (by decide) rfl (fun ls hl => ?_)
  refine lv_aload_n hx hb d_law_1215 rfl (lv_at hl 3 rfl) ?_
  refine lv_aload_n hx hb d_law_1216 rfl (lv_at hl 5 rfl) ?_
  refine lv_iload hx hb d_law_1217 (lv_at hl 1 rfl) ?_
  refine lv_iconst (v := 1) hx hb d_law_1219 (by decide) ?_
  refine lv_iadd hx hb d_law_1220 ?_
  refine va_sld hx hb hX hbl hbA hS h1 d_law_1221 ?_
  refine cVi (ws' := (wCc xCc cI cZ xGo xFo xPk xSk xAi xSh xJo gGo gFo gPk qPk gSk gAi gSh gJo ++ ([(xo, .inl (cJ, 1, .inr (.inl q1)))] : va_W)) ++ wMo xMo cI cZ o1) (As := [.int (xs (i + 1).toNatClampNeg)]) (rest := []) C0 hP hD hS hl.1 [29, 30, 31, 32, 33, 34, 35, 36, 37, 38, 39, 40, 41, 42, 43, 44] (c_Mo_inside_r l D cI cZ cJ xMo H.size o (xs (i + 1).toNatClampNeg) r o1 hm) k_Mo_inside m_917 rfl rfl (C_suf rfl) rfl rfl (rp_suf rfl rfl) ⟨by decide, by decide⟩ ⟨rfl, rfl⟩ rfl (Nat.le_of_ble_eq_true rfl) d_law_1222 ⟨hcs.1, hcs.2⟩ (fun H locs hP hD hS => ?_)
  refine lv_istore (lv' := [(6, .int r), (5, .int k), (4, .int i), (3, .ref xo), (2, .ref (xMo 0)), (1, .ref xCc), (0, .ref b)]) hx hb d_law_1225 hl (by decide) rfl (fun ls hl => ?_)
  refine lv_aload_n hx hb d_law_1227 rfl (lv_at hl 4 rfl) ?_
  refine cVi (ws' := (wCc xCc cI cZ xGo xFo xPk xSk xAi xSh xJo gGo gFo gPk qPk gSk gAi gSh gJo ++ ([(xo, .inl (cJ, 1, .inr (.inl q1)))] : va_W)) ++ wMo xMo cI cZ o1) (As := []) (rest := []) C0 hP hD hS hl.1 [29, 30, 31, 32, 33, 34, 35, 36, 37, 38, 39, 40, 41, 42, 43, 44] (c_Mo_thrown_r l D cI cZ cJ xMo H.size o1 (o1 0 0) rfl) k_Mo_thrown m_798 rfl rfl (C_suf rfl) rfl rfl (rp_same (C_suf rfl)) ⟨by decide, by decide⟩ ⟨rfl, rfl⟩ rfl (Nat.le_of_ble_eq_true rfl) d_law_1228 ⟨hcs.1, hcs.2⟩ (fun H locs hP hD hS => ?_)
  refine lv_iload hx hb d_law_1231 (lv_at hl 1 rfl) ?_
  refine lv_icmp_eq (tgt := 1238) hx hb d_law_1233 (by decide) (fun _ => ?_) (fun hne => absurd ht hne)
  refine lv_iload hx hb d_law_1238 (lv_at hl 1 rfl) ?_
  have fin : W p l e room_1 s m args below meth c H locs (cells + 1) (slots + 6) Q (F0 m 1255 ls []) := by
    refine lv_goto (tgt := 1629) hx hb d_law_1255 (by decide) ?_
    exact kk gGo gFo gPk qPk gSk gAi gSh gJo q1 o1 H locs ls hI1 hP hD hS (lv_sub hl [2, 3, 4, 5, 6] rfl)
  refine lv_if_ne (tgt := 1255) hx hb d_law_1240 (by decide) (fun _ => fin) (fun hk0 => ?_)
  refine lv_aload_n hx hb d_law_1243 rfl (lv_at hl 3 rfl) ?_
  refine lv_iconst (v := 0) hx hb d_law_1244 (by decide) ?_
  refine va_lald hx hb hK hP 28 2 rfl rfl (inb_in (by decide)) d_law_1245 ?_
  refine lv_iload hx hb d_law_1246 (lv_at hl 0 rfl) ?_
  refine lv_i2l (v := r.toInt64) hx hb d_law_1248 rfl ?_
  refine W.lcmp hx hb d_law_1249 ?_
  refine lv_if_eq (tgt := 1255) hx hb d_law_1250 (by decide) (fun _ => fin) (fun hne => absurd (by rw [hq hk0]; exact lg_self _) hne)
