set_option maxRecDepth 100000 in
set_option maxHeartbeats 4000000 in
theorem lw_steady {p : Program} {l : Launch} {e : Env} {s : State} {m : MethodId} {args : Array Value} {below : List Frame} {meth : Method} {c : Code} {H : Heap} {locs : List Loc} {cells slots : Nat} {Q : State → Prop} (hltr : l.stackTraces = false) {D : va_G} {cI cZ cJ : ClassId} {A : Nat → Prop} {xCc : Nat} {xGo : Nat → Nat} {xFo : Nat → Nat} {xPk : Nat → Nat} {xSk : Nat → Nat} {xAi : Nat → Nat} {xSh : Nat → Nat} {xJo : Nat → Nat} {xo : Nat} {xMo : Nat → Nat} {gGo : St} {gFo : St} {gPk : St} {qPk : Int64} {gSk : St} {gAi : St} {gSh : St} {gJo : St} {q : Nat → Int64} {o : St} {b L : Nat} {xs : Nat → Int32} {i : Int32} {ls : Array Slot} (C0 : CX p s m args c R_La code 7 D (TYS cI cZ cJ) A) (hX : va_X b L xs s s.heap) (hbl : b < s.heap.size) (hbA : ¬ A b) (h1 : vp_in (i + 1) L) (h2 : vp_in (i + 2) L) (h3 : vp_in (i + 3) L) (h4 : vp_in (i + 4) L) (hI : INV gGo gFo gPk qPk gSk gAi gSh gJo o) (hP : va_P D vwCl ((wCc xCc cI cZ xGo xFo xPk xSk xAi xSh xJo gGo gFo gPk qPk gSk gAi gSh gJo ++ ([(xo, .inl (cJ, 1, .inr (.inl q)))] : va_W)) ++ wMo xMo cI cZ o) H) (hD : va_D A ((wCc xCc cI cZ xGo xFo xPk xSk xAi xSh xJo gGo gFo gPk qPk gSk gAi gSh gJo ++ ([(xo, .inl (cJ, 1, .inr (.inl q)))] : va_W)) ++ wMo xMo cI cZ o)) (hS : va_S A s.heap H locs) (hl : lv_has ls 7 [(4, .int i), (3, .ref xo), (2, .ref (xMo 0)), (1, .ref xCc), (0, .ref b)]) (hcs : cells + 1 ≤ room_1.cells ∧ slots + 6 ≤ room_1.slots)
    (kk : ∀ (gGo1 : St) (gFo1 : St) (gPk1 : St) (qPk1 : Int64) (gSk1 : St) (gAi1 : St) (gSh1 : St) (gJo1 : St) (q1 : Nat → Int64) (o1 : St) (H1 : Heap) (locs1 : List Loc) (ls1 : Array Slot), INV gGo1 gFo1 gPk1 qPk1 gSk1 gAi1 gSh1 gJo1 o1 → va_P D vwCl ((wCc xCc cI cZ xGo xFo xPk xSk xAi xSh xJo gGo1 gFo1 gPk1 qPk1 gSk1 gAi1 gSh1 gJo1 ++ ([(xo, .inl (cJ, 1, .inr (.inl q1)))] : va_W)) ++ wMo xMo cI cZ o1) H1 → va_D A ((wCc xCc cI cZ xGo xFo xPk xSk xAi xSh xJo gGo1 gFo1 gPk1 qPk1 gSk1 gAi1 gSh1 gJo1 ++ ([(xo, .inl (cJ, 1, .inr (.inl q1)))] : va_W)) ++ wMo xMo cI cZ o1) → va_S A s.heap H1 locs1 → lv_has ls1 7 [(4, .int i), (3, .ref xo), (2, .ref (xMo 0)), (1, .ref xCc), (0, .ref b)] → W p l e room_1 s m args below meth c H1 locs1 (cells + 1) (slots + 6) Q (F0 m 1629 ls1 [])) : W p l e room_1 s m args below meth c H locs cells slots Q (F0 m 1258 ls []) := by
  obtain ⟨hx, hb, -, hown, hts, hK, hE, -⟩ := id C0
  refine lv_aload_n hx hb d_law_1258 rfl (lv_at hl 3 rfl) ?_
  refine lv_aload_n hx hb d_law_1259 rfl (lv_at hl 4 rfl) ?_
  refine lv_iload hx hb d_law_1260 (lv_at hl 0 rfl) ?_
  refine lv_iconst (v := 1) hx hb d_law_1262 (by decide) ?_
  refine lv_iadd hx hb d_law_1263 ?_
  refine va_sld hx hb hX hbl hbA hS h1 d_law_1264 ?_
  refine lv_aload_n hx hb d_law_1265 rfl (lv_at hl 4 rfl) ?_
  refine lv_iload hx hb d_law_1266 (lv_at hl 0 rfl) ?_
  refine lv_iconst (v := 2) hx hb d_law_1268 (by decide) ?_
  refine lv_iadd hx hb d_law_1269 ?_
  refine va_sld hx hb hX hbl hbA hS h2 d_law_1270 ?_
  refine lv_aload_n hx hb d_law_1271 rfl (lv_at hl 1 rfl) ?_
  obtain ⟨k, r, q1, o1, hM, hm, ht, hq, hI1⟩ := g_steady (l := l) (D := D) (cJ := cJ) (xCc := xCc) (xGo := xGo) (xFo := xFo) (xPk := xPk) (xSk := xSk) (xAi := xAi) (xSh := xSh) (xJo := xJo) (cI := cI) (cZ := cZ) (xo := xo) (q := q) hltr hI (xs (i + 1).toNatClampNeg) (xs (i + 2).toNatClampNeg)
  refine cW (ws' := (wCc xCc cI cZ xGo xFo xPk xSk xAi xSh xJo gGo gFo gPk qPk gSk gAi gSh gJo ++ ([(xo, .inl (cJ, 1, .inr (.inl q1)))] : va_W)) ++ wMo xMo cI cZ o) (As := [.ref xCc, .int (xs (i + 1).toNatClampNeg), .int (xs (i + 2).toNatClampNeg), .ref xo]) (rest := []) C0 hP hD hS hl.1 [0, 1, 2, 3, 4, 5, 6, 7, 8, 9, 10, 11, 12, 13, 14, 15, 16, 17, 18, 19, 20, 21, 22, 23, 24, 25, 26, 27, 28] (hM H.size) kw_steady m_623 (C_pre rfl) rfl rfl (rp_pre rfl rfl) ⟨by decide, by decide⟩ ⟨rfl, rfl⟩ rfl (Nat.le_of_ble_eq_true rfl) d_law_1272 hcs (fun H locs hP hD hS => ?_)
  refine lv_istore (lv' := [(5, .int k), (4, .int i), (3, .ref xo), (2, .ref (xMo 0)), (1, .ref xCc), (0, .ref b)]) hx hb d_law_1275 hl (by decide) rfl (fun ls hl => ?_)
  refine lv_aload_n hx hb d_law_1277 rfl (lv_at hl 3 rfl) ?_
  refine lv_aload_n hx hb d_law_1278 rfl (lv_at hl 5 rfl) ?_
  refine lv_iload hx hb d_law_1279 (lv_at hl 1 rfl) ?_
  refine lv_iconst (v := 1) hx hb d_law_1281 (by decide) ?_
  refine lv_iadd hx hb d_law_1282 ?_
  refine va_sld hx hb hX hbl hbA hS h1 d_law_1283 ?_
  refine lv_aload_n hx hb d_law_1284 rfl (lv_at hl 5 rfl) ?_
  refine lv_iload hx hb d_law_1285 (lv_at hl 1 rfl) ?_
  refine lv_iconst (v := 2) hx hb d_law_1287 (by decide) ?_
  refine lv_iadd hx hb d_law_1288 ?_
  refine va_sld hx hb hX hbl hbA hS h2 d_law_1289 ?_
  refine cVi (ws' := (wCc xCc cI cZ xGo xFo xPk xSk xAi xSh xJo gGo gFo gPk qPk gSk gAi gSh gJo ++ ([(xo, .inl (cJ, 1, .inr (.inl q1)))] : va_W)) ++ wMo xMo cI cZ o1) (As := [.int (xs (i + 1).toNatClampNeg), .int (xs (i + 2).toNatClampNeg)]) (rest := []) C0 hP hD hS hl.1 [29, 30, 31, 32, 33, 34, 35, 36, 37, 38, 39, 40, 41, 42, 43, 44] (c_Mo_steady_r l D cI cZ cJ xMo H.size o (xs (i + 1).toNatClampNeg) (xs (i + 2).toNatClampNeg) r o1 hm) k_Mo_steady m_921 rfl rfl (C_suf rfl) rfl rfl (rp_suf rfl rfl) ⟨by decide, by decide⟩ ⟨rfl, rfl⟩ rfl (Nat.le_of_ble_eq_true rfl) d_law_1290 ⟨hcs.1, hcs.2⟩ (fun H locs hP hD hS => ?_)
  refine lv_istore (lv' := [(6, .int r), (5, .int k), (4, .int i), (3, .ref xo), (2, .ref (xMo 0)), (1, .ref xCc), (0, .ref b)]) hx hb d_law_1293 hl (by decide) rfl (fun ls hl => ?_)
  refine lv_aload_n hx hb d_law_1295 rfl (lv_at hl 4 rfl) ?_
  refine cVi (ws' := (wCc xCc cI cZ xGo xFo xPk xSk xAi xSh xJo gGo gFo gPk qPk gSk gAi gSh gJo ++ ([(xo, .inl (cJ, 1, .inr (.inl q1)))] : va_W)) ++ wMo xMo cI cZ o1) (As := []) (rest := []) C0 hP hD hS hl.1 [29, 30, 31, 32, 33, 34, 35, 36, 37, 38, 39, 40, 41, 42, 43, 44] (c_Mo_thrown_r l D cI cZ cJ xMo H.size o1 (o1 0 0) rfl) k_Mo_thrown m_798 rfl rfl (C_suf rfl) rfl rfl (rp_same (C_suf rfl)) ⟨by decide, by decide⟩ ⟨rfl, rfl⟩ rfl (Nat.le_of_ble_eq_true rfl) d_law_1296 ⟨hcs.1, hcs.2⟩ (fun H locs hP hD hS => ?_)
  refine lv_iload hx hb d_law_1299 (lv_at hl 1 rfl) ?_
  refine lv_icmp_eq (tgt := 1306) hx hb d_law_1301 (by decide) (fun _ => ?_) (fun hne => absurd ht hne)
  refine lv_iload hx hb d_law_1306 (lv_at hl 1 rfl) ?_
  have fin : W p l e room_1 s m args below meth c H locs (cells + 1) (slots + 6) Q (F0 m 1323 ls []) := by
    refine lv_goto (tgt := 1629) hx hb d_law_1323 (by decide) ?_
    exact kk gGo gFo gPk qPk gSk gAi gSh gJo q1 o1 H locs ls hI1 hP hD hS (lv_sub hl [2, 3, 4, 5, 6] rfl)
  refine lv_if_ne (tgt := 1323) hx hb d_law_1308 (by decide) (fun _ => fin) (fun hk0 => ?_)
  refine lv_aload_n hx hb d_law_1311 rfl (lv_at hl 3 rfl) ?_
  refine lv_iconst (v := 0) hx hb d_law_1312 (by decide) ?_
  refine va_lald hx hb hK hP 28 2 rfl rfl (inb_in (by decide)) d_law_1313 ?_
  refine lv_iload hx hb d_law_1314 (lv_at hl 0 rfl) ?_
  refine lv_i2l (v := r.toInt64) hx hb d_law_1316 rfl ?_
  refine W.lcmp hx hb d_law_1317 ?_
  refine lv_if_eq (tgt := 1323) hx hb d_law_1318 (by decide) (fun _ => fin) (fun hne => absurd (by rw [hq hk0]; exact lg_self _) hne)
set_option maxRecDepth 100000 in
set_option maxHeartbeats 4000000 in
theorem lw_limit {p : Program} {l : Launch} {e : Env} {s : State} {m : MethodId} {args : Array Value} {below : List Frame} {meth : Method} {c : Code} {H : Heap} {locs : List Loc} {cells slots : Nat} {Q : State → Prop} (hltr : l.stackTraces = false) {D : va_G} {cI cZ cJ : ClassId} {A : Nat → Prop} {xCc : Nat} {xGo : Nat → Nat} {xFo : Nat → Nat} {xPk : Nat → Nat} {xSk : Nat → Nat} {xAi : Nat → Nat} {xSh : Nat → Nat} {xJo : Nat → Nat} {xo : Nat} {xMo : Nat → Nat} {gGo : St} {gFo : St} {gPk : St} {qPk : Int64} {gSk : St} {gAi : St} {gSh : St} {gJo : St} {q : Nat → Int64} {o : St} {b L : Nat} {xs : Nat → Int32} {i : Int32} {ls : Array Slot} (C0 : CX p s m args c R_La code 7 D (TYS cI cZ cJ) A) (hX : va_X b L xs s s.heap) (hbl : b < s.heap.size) (hbA : ¬ A b) (h1 : vp_in (i + 1) L) (h2 : vp_in (i + 2) L) (h3 : vp_in (i + 3) L) (h4 : vp_in (i + 4) L) (hI : INV gGo gFo gPk qPk gSk gAi gSh gJo o) (hP : va_P D vwCl ((wCc xCc cI cZ xGo xFo xPk xSk xAi xSh xJo gGo gFo gPk qPk gSk gAi gSh gJo ++ ([(xo, .inl (cJ, 1, .inr (.inl q)))] : va_W)) ++ wMo xMo cI cZ o) H) (hD : va_D A ((wCc xCc cI cZ xGo xFo xPk xSk xAi xSh xJo gGo gFo gPk qPk gSk gAi gSh gJo ++ ([(xo, .inl (cJ, 1, .inr (.inl q)))] : va_W)) ++ wMo xMo cI cZ o)) (hS : va_S A s.heap H locs) (hl : lv_has ls 7 [(4, .int i), (3, .ref xo), (2, .ref (xMo 0)), (1, .ref xCc), (0, .ref b)]) (hcs : cells + 1 ≤ room_1.cells ∧ slots + 6 ≤ room_1.slots)
    (kk : ∀ (gGo1 : St) (gFo1 : St) (gPk1 : St) (qPk1 : Int64) (gSk1 : St) (gAi1 : St) (gSh1 : St) (gJo1 : St) (q1 : Nat → Int64) (o1 : St) (H1 : Heap) (locs1 : List Loc) (ls1 : Array Slot), INV gGo1 gFo1 gPk1 qPk1 gSk1 gAi1 gSh1 gJo1 o1 → va_P D vwCl ((wCc xCc cI cZ xGo xFo xPk xSk xAi xSh xJo gGo1 gFo1 gPk1 qPk1 gSk1 gAi1 gSh1 gJo1 ++ ([(xo, .inl (cJ, 1, .inr (.inl q1)))] : va_W)) ++ wMo xMo cI cZ o1) H1 → va_D A ((wCc xCc cI cZ xGo xFo xPk xSk xAi xSh xJo gGo1 gFo1 gPk1 qPk1 gSk1 gAi1 gSh1 gJo1 ++ ([(xo, .inl (cJ, 1, .inr (.inl q1)))] : va_W)) ++ wMo xMo cI cZ o1) → va_S A s.heap H1 locs1 → lv_has ls1 7 [(4, .int i), (3, .ref xo), (2, .ref (xMo 0)), (1, .ref xCc), (0, .ref b)] → W p l e room_1 s m args below meth c H1 locs1 (cells + 1) (slots + 6) Q (F0 m 1629 ls1 [])) : W p l e room_1 s m args below meth c H locs cells slots Q (F0 m 1326 ls []) := by
  obtain ⟨hx, hb, -, hown, hts, hK, hE, -⟩ := id C0
  refine lv_aload_n hx hb d_law_1326 rfl (lv_at hl 3 rfl) ?_
  refine lv_aload_n hx hb d_law_1327 rfl (lv_at hl 4 rfl) ?_
  refine lv_iload hx hb d_law_1328 (lv_at hl 0 rfl) ?_
  refine lv_iconst (v := 1) hx hb d_law_1330 (by decide) ?_
  refine lv_iadd hx hb d_law_1331 ?_
  refine va_sld hx hb hX hbl hbA hS h1 d_law_1332 ?_
  refine lv_aload_n hx hb d_law_1333 rfl (lv_at hl 4 rfl) ?_
  refine lv_iload hx hb d_law_1334 (lv_at hl 0 rfl) ?_
  refine lv_iconst (v := 2) hx hb d_law_1336 (by decide) ?_
  refine lv_iadd hx hb d_law_1337 ?_
  refine va_sld hx hb hX hbl hbA hS h2 d_law_1338 ?_
  obtain ⟨k, gSh1, q1, o1, hM, hm, ht, hI1⟩ := g_limit (l := l) (D := D) (cJ := cJ) (xCc := xCc) (xGo := xGo) (xFo := xFo) (xPk := xPk) (xSk := xSk) (xAi := xAi) (xSh := xSh) (xJo := xJo) (cI := cI) (cZ := cZ) (xo := xo) (q := q) hltr hI (xs (i + 1).toNatClampNeg) (xs (i + 2).toNatClampNeg)
  refine cW (ws' := (wCc xCc cI cZ xGo xFo xPk xSk xAi xSh xJo gGo gFo gPk qPk gSk gAi gSh1 gJo ++ ([(xo, .inl (cJ, 1, .inr (.inl q1)))] : va_W)) ++ wMo xMo cI cZ o) (As := [.ref xCc, .int (xs (i + 1).toNatClampNeg), .int (xs (i + 2).toNatClampNeg)]) (rest := []) C0 hP hD hS hl.1 [0, 1, 2, 3, 4, 5, 6, 7, 8, 9, 10, 11, 12, 13, 14, 15, 16, 17, 18, 19, 20, 21, 22, 23, 24, 25, 26, 27, 28] (hM H.size) kw_limit m_637 (C_pre rfl) rfl rfl (rp_pre rfl rfl) ⟨by decide, by decide⟩ ⟨rfl, rfl⟩ rfl (Nat.le_of_ble_eq_true rfl) d_law_1339 hcs (fun H locs hP hD hS => ?_)
  refine lv_istore (lv' := [(5, .int k), (4, .int i), (3, .ref xo), (2, .ref (xMo 0)), (1, .ref xCc), (0, .ref b)]) hx hb d_law_1342 hl (by decide) rfl (fun ls hl => ?_)
  refine lv_aload_n hx hb d_law_1344 rfl (lv_at hl 3 rfl) ?_
  refine lv_aload_n hx hb d_law_1345 rfl (lv_at hl 5 rfl) ?_
  refine lv_iload hx hb d_law_1346 (lv_at hl 1 rfl) ?_
  refine lv_iconst (v := 1) hx hb d_law_1348 (by decide) ?_
  refine lv_iadd hx hb d_law_1349 ?_
  refine va_sld hx hb hX hbl hbA hS h1 d_law_1350 ?_
  refine lv_aload_n hx hb d_law_1351 rfl (lv_at hl 5 rfl) ?_
  refine lv_iload hx hb d_law_1352 (lv_at hl 1 rfl) ?_
  refine lv_iconst (v := 2) hx hb d_law_1354 (by decide) ?_
  refine lv_iadd hx hb d_law_1355 ?_
  refine va_sld hx hb hX hbl hbA hS h2 d_law_1356 ?_
  refine cVv (ws' := (wCc xCc cI cZ xGo xFo xPk xSk xAi xSh xJo gGo gFo gPk qPk gSk gAi gSh1 gJo ++ ([(xo, .inl (cJ, 1, .inr (.inl q1)))] : va_W)) ++ wMo xMo cI cZ o1) (As := [.int (xs (i + 1).toNatClampNeg), .int (xs (i + 2).toNatClampNeg)]) (rest := []) C0 hP hD hS hl.1 [29, 30, 31, 32, 33, 34, 35, 36, 37, 38, 39, 40, 41, 42, 43, 44] (c_Mo_limit_r l D cI cZ cJ xMo H.size o (xs (i + 1).toNatClampNeg) (xs (i + 2).toNatClampNeg)  o1 hm) k_Mo_limit m_925 rfl rfl (C_suf rfl) rfl rfl (rp_suf rfl rfl) ⟨by decide, by decide⟩ ⟨rfl, rfl⟩ rfl (Nat.le_of_ble_eq_true rfl) d_law_1357 ⟨hcs.1, hcs.2⟩ (fun H locs hP hD hS => ?_)
  refine lv_aload_n hx hb d_law_1360 rfl (lv_at hl 3 rfl) ?_
  refine cVi (ws' := (wCc xCc cI cZ xGo xFo xPk xSk xAi xSh xJo gGo gFo gPk qPk gSk gAi gSh1 gJo ++ ([(xo, .inl (cJ, 1, .inr (.inl q1)))] : va_W)) ++ wMo xMo cI cZ o1) (As := []) (rest := []) C0 hP hD hS hl.1 [29, 30, 31, 32, 33, 34, 35, 36, 37, 38, 39, 40, 41, 42, 43, 44] (c_Mo_thrown_r l D cI cZ cJ xMo H.size o1 (o1 0 0) rfl) k_Mo_thrown m_798 rfl rfl (C_suf rfl) rfl rfl (rp_same (C_suf rfl)) ⟨by decide, by decide⟩ ⟨rfl, rfl⟩ rfl (Nat.le_of_ble_eq_true rfl) d_law_1361 ⟨hcs.1, hcs.2⟩ (fun H locs hP hD hS => ?_)
  refine lv_iload hx hb d_law_1364 (lv_at hl 0 rfl) ?_
  refine lv_icmp_eq (tgt := 1371) hx hb d_law_1366 (by decide) (fun _ => ?_) (fun hne => absurd ht hne)
  refine lv_goto (tgt := 1629) hx hb d_law_1371 (by decide) ?_
  exact kk gGo gFo gPk qPk gSk gAi gSh1 gJo q1 o1 H locs ls hI1 hP hD hS (lv_sub hl [1, 2, 3, 4, 5] rfl)
set_option maxRecDepth 100000 in
set_option maxHeartbeats 4000000 in
theorem lw_shock {p : Program} {l : Launch} {e : Env} {s : State} {m : MethodId} {args : Array Value} {below : List Frame} {meth : Method} {c : Code} {H : Heap} {locs : List Loc} {cells slots : Nat} {Q : State → Prop} (hltr : l.stackTraces = false) {D : va_G} {cI cZ cJ : ClassId} {A : Nat → Prop} {xCc : Nat} {xGo : Nat → Nat} {xFo : Nat → Nat} {xPk : Nat → Nat} {xSk : Nat → Nat} {xAi : Nat → Nat} {xSh : Nat → Nat} {xJo : Nat → Nat} {xo : Nat} {xMo : Nat → Nat} {gGo : St} {gFo : St} {gPk : St} {qPk : Int64} {gSk : St} {gAi : St} {gSh : St} {gJo : St} {q : Nat → Int64} {o : St} {b L : Nat} {xs : Nat → Int32} {i : Int32} {ls : Array Slot} (C0 : CX p s m args c R_La code 7 D (TYS cI cZ cJ) A) (hX : va_X b L xs s s.heap) (hbl : b < s.heap.size) (hbA : ¬ A b) (h1 : vp_in (i + 1) L) (h2 : vp_in (i + 2) L) (h3 : vp_in (i + 3) L) (h4 : vp_in (i + 4) L) (hI : INV gGo gFo gPk qPk gSk gAi gSh gJo o) (hP : va_P D vwCl ((wCc xCc cI cZ xGo xFo xPk xSk xAi xSh xJo gGo gFo gPk qPk gSk gAi gSh gJo ++ ([(xo, .inl (cJ, 1, .inr (.inl q)))] : va_W)) ++ wMo xMo cI cZ o) H) (hD : va_D A ((wCc xCc cI cZ xGo xFo xPk xSk xAi xSh xJo gGo gFo gPk qPk gSk gAi gSh gJo ++ ([(xo, .inl (cJ, 1, .inr (.inl q)))] : va_W)) ++ wMo xMo cI cZ o)) (hS : va_S A s.heap H locs) (hl : lv_has ls 7 [(4, .int i), (3, .ref xo), (2, .ref (xMo 0)), (1, .ref xCc), (0, .ref b)]) (hcs : cells + 1 ≤ room_1.cells ∧ slots + 6 ≤ room_1.slots)
    (kk : ∀ (gGo1 : St) (gFo1 : St) (gPk1 : St) (qPk1 : Int64) (gSk1 : St) (gAi1 : St) (gSh1 : St) (gJo1 : St) (q1 : Nat → Int64) (o1 : St) (H1 : Heap) (locs1 : List Loc) (ls1 : Array Slot), INV gGo1 gFo1 gPk1 qPk1 gSk1 gAi1 gSh1 gJo1 o1 → va_P D vwCl ((wCc xCc cI cZ xGo xFo xPk xSk xAi xSh xJo gGo1 gFo1 gPk1 qPk1 gSk1 gAi1 gSh1 gJo1 ++ ([(xo, .inl (cJ, 1, .inr (.inl q1)))] : va_W)) ++ wMo xMo cI cZ o1) H1 → va_D A ((wCc xCc cI cZ xGo xFo xPk xSk xAi xSh xJo gGo1 gFo1 gPk1 qPk1 gSk1 gAi1 gSh1 gJo1 ++ ([(xo, .inl (cJ, 1, .inr (.inl q1)))] : va_W)) ++ wMo xMo cI cZ o1) → va_S A s.heap H1 locs1 → lv_has ls1 7 [(4, .int i), (3, .ref xo), (2, .ref (xMo 0)), (1, .ref xCc), (0, .ref b)] → W p l e room_1 s m args below meth c H1 locs1 (cells + 1) (slots + 6) Q (F0 m 1629 ls1 [])) : W p l e room_1 s m args below meth c H locs cells slots Q (F0 m 1374 ls []) := by
  obtain ⟨hx, hb, -, hown, hts, hK, hE, -⟩ := id C0
  refine lv_aload_n hx hb d_law_1374 rfl (lv_at hl 3 rfl) ?_
  refine lv_aload_n hx hb d_law_1375 rfl (lv_at hl 4 rfl) ?_
  refine lv_iload hx hb d_law_1376 (lv_at hl 0 rfl) ?_
  refine lv_iconst (v := 1) hx hb d_law_1378 (by decide) ?_
  refine lv_iadd hx hb d_law_1379 ?_
  refine va_sld hx hb hX hbl hbA hS h1 d_law_1380 ?_
  refine lv_aload_n hx hb d_law_1381 rfl (lv_at hl 4 rfl) ?_
  refine lv_iload hx hb d_law_1382 (lv_at hl 0 rfl) ?_
  refine lv_iconst (v := 2) hx hb d_law_1384 (by decide) ?_
  refine lv_iadd hx hb d_law_1385 ?_
  refine va_sld hx hb hX hbl hbA hS h2 d_law_1386 ?_
  refine lv_aload_n hx hb d_law_1387 rfl (lv_at hl 1 rfl) ?_
  obtain ⟨k, r, gSh1, q1, o1, hM, hm, ht, hq, hI1⟩ := g_shock (l := l) (D := D) (cJ := cJ) (xCc := xCc) (xGo := xGo) (xFo := xFo) (xPk := xPk) (xSk := xSk) (xAi := xAi) (xSh := xSh) (xJo := xJo) (cI := cI) (cZ := cZ) (xo := xo) (q := q) hltr hI (xs (i + 1).toNatClampNeg) (xs (i + 2).toNatClampNeg)
  refine cW (ws' := (wCc xCc cI cZ xGo xFo xPk xSk xAi xSh xJo gGo gFo gPk qPk gSk gAi gSh1 gJo ++ ([(xo, .inl (cJ, 1, .inr (.inl q1)))] : va_W)) ++ wMo xMo cI cZ o) (As := [.ref xCc, .int (xs (i + 1).toNatClampNeg), .int (xs (i + 2).toNatClampNeg), .ref xo]) (rest := []) C0 hP hD hS hl.1 [0, 1, 2, 3, 4, 5, 6, 7, 8, 9, 10, 11, 12, 13, 14, 15, 16, 17, 18, 19, 20, 21, 22, 23, 24, 25, 26, 27, 28] (hM H.size) kw_shock m_649 (C_pre rfl) rfl rfl (rp_pre rfl rfl) ⟨by decide, by decide⟩ ⟨rfl, rfl⟩ rfl (Nat.le_of_ble_eq_true rfl) d_law_1388 hcs (fun H locs hP hD hS => ?_)
  refine lv_istore (lv' := [(5, .int k), (4, .int i), (3, .ref xo), (2, .ref (xMo 0)), (1, .ref xCc), (0, .ref b)]) hx hb d_law_1391 hl (by decide) rfl (fun ls hl => ?_)
  refine lv_aload_n hx hb d_law_1393 rfl (lv_at hl 3 rfl) ?_
  refine lv_aload_n hx hb d_law_1394 rfl (lv_at hl 5 rfl) ?_
  refine lv_iload hx hb d_law_1395 (lv_at hl 1 rfl) ?_
  refine lv_iconst (v := 1) hx hb d_law_1397 (by decide) ?_
  refine lv_iadd hx hb d_law_1398 ?_
  refine va_sld hx hb hX hbl hbA hS h1 d_law_1399 ?_
  refine lv_aload_n hx hb d_law_1400 rfl (lv_at hl 5 rfl) ?_
  refine lv_iload hx hb d_law_1401 (lv_at hl 1 rfl) ?_
  refine lv_iconst (v := 2) hx hb d_law_1403 (by decide) ?_
  refine lv_iadd hx hb d_law_1404 ?_
  refine va_sld hx hb hX hbl hbA hS h2 d_law_1405 ?_
  refine cVi (ws' := (wCc xCc cI cZ xGo xFo xPk xSk xAi xSh xJo gGo gFo gPk qPk gSk gAi gSh1 gJo ++ ([(xo, .inl (cJ, 1, .inr (.inl q1)))] : va_W)) ++ wMo xMo cI cZ o1) (As := [.int (xs (i + 1).toNatClampNeg), .int (xs (i + 2).toNatClampNeg)]) (rest := []) C0 hP hD hS hl.1 [29, 30, 31, 32, 33, 34, 35, 36, 37, 38, 39, 40, 41, 42, 43, 44] (c_Mo_shock_r l D cI cZ cJ xMo H.size o (xs (i + 1).toNatClampNeg) (xs (i + 2).toNatClampNeg) r o1 hm) k_Mo_shock m_929 rfl rfl (C_suf rfl) rfl rfl (rp_suf rfl rfl) ⟨by decide, by decide⟩ ⟨rfl, rfl⟩ rfl (Nat.le_of_ble_eq_true rfl) d_law_1406 ⟨hcs.1, hcs.2⟩ (fun H locs hP hD hS => ?_)
  refine lv_istore (lv' := [(6, .int r), (5, .int k), (4, .int i), (3, .ref xo), (2, .ref (xMo 0)), (1, .ref xCc), (0, .ref b)]) hx hb d_law_1409 hl (by decide) rfl (fun ls hl => ?_)
  refine lv_aload_n hx hb d_law_1411 rfl (lv_at hl 4 rfl) ?_
  refine cVi (ws' := (wCc xCc cI cZ xGo xFo xPk xSk xAi xSh xJo gGo gFo gPk qPk gSk gAi gSh1 gJo ++ ([(xo, .inl (cJ, 1, .inr (.inl q1)))] : va_W)) ++ wMo xMo cI cZ o1) (As := []) (rest := []) C0 hP hD hS hl.1 [29, 30, 31, 32, 33, 34, 35, 36, 37, 38, 39, 40, 41, 42, 43, 44] (c_Mo_thrown_r l D cI cZ cJ xMo H.size o1 (o1 0 0) rfl) k_Mo_thrown m_798 rfl rfl (C_suf rfl) rfl rfl (rp_same (C_suf rfl)) ⟨by decide, by decide⟩ ⟨rfl, rfl⟩ rfl (Nat.le_of_ble_eq_true rfl) d_law_1412 ⟨hcs.1, hcs.2⟩ (fun H locs hP hD hS => ?_)
  refine lv_iload hx hb d_law_1415 (lv_at hl 1 rfl) ?_
  refine lv_icmp_eq (tgt := 1422) hx hb d_law_1417 (by decide) (fun _ => ?_) (fun hne => absurd ht hne)
  refine lv_iload hx hb d_law_1422 (lv_at hl 1 rfl) ?_
  have fin : W p l e room_1 s m args below meth c H locs (cells + 1) (slots + 6) Q (F0 m 1446 ls []) := by
    refine lv_goto (tgt := 1629) hx hb d_law_1446 (by decide) ?_
    exact kk gGo gFo gPk qPk gSk gAi gSh1 gJo q1 o1 H locs ls hI1 hP hD hS (lv_sub hl [2, 3, 4, 5, 6] rfl)
  refine lv_if_ne (tgt := 1446) hx hb d_law_1424 (by decide) (fun _ => fin) (fun hk0 => ?_)
  refine lv_aload_n hx hb d_law_1427 rfl (lv_at hl 3 rfl) ?_
  refine lv_iconst (v := 0) hx hb d_law_1428 (by decide) ?_
  refine va_lald hx hb hK hP 28 2 rfl rfl (inb_in (by decide)) d_law_1429 ?_
  refine lv_iload hx hb d_law_1430 (lv_at hl 0 rfl) ?_
  have cmp : W p l e room_1 s m args below meth c H locs (cells + 1) (slots + 6) Q (F0 m 1440 ls [.long (bz r), .long (q1 (0 : Int32).toNatClampNeg)]) := by
    refine W.lcmp hx hb d_law_1440 ?_
    refine lv_if_eq (tgt := 1446) hx hb d_law_1441 (by decide) (fun _ => fin) (fun hne => absurd (by rw [hq hk0]; exact lg_self _) hne)
  refine lv_if_eq (tgt := 1439) hx hb d_law_1432 (by decide) (fun hz => ?_) (fun hz => ?_)
  · refine lv_lconst (v := 0) hx hb d_law_1439 (by decide) ?_
    have e0 : bz r = 0 := if_pos hz
    rw [e0] at cmp
    exact cmp
  · refine lv_lconst (v := 1) hx hb d_law_1435 (by decide) ?_
    refine lv_goto (tgt := 1440) hx hb d_law_1436 (by decide) ?_
    have e0 : bz r = 1 := if_neg hz
    rw [e0] at cmp
    exact cmp
set_option maxRecDepth 100000 in
set_option maxHeartbeats 4000000 in
theorem lw_route {p : Program} {l : Launch} {e : Env} {s : State} {m : MethodId} {args : Array Value} {below : List Frame} {meth : Method} {c : Code} {H : Heap} {locs : List Loc} {cells slots : Nat} {Q : State → Prop} (hltr : l.stackTraces = false) {D : va_G} {cI cZ cJ : ClassId} {A : Nat → Prop} {xCc : Nat} {xGo : Nat → Nat} {xFo : Nat → Nat} {xPk : Nat → Nat} {xSk : Nat → Nat} {xAi : Nat → Nat} {xSh : Nat → Nat} {xJo : Nat → Nat} {xo : Nat} {xMo : Nat → Nat} {gGo : St} {gFo : St} {gPk : St} {qPk : Int64} {gSk : St} {gAi : St} {gSh : St} {gJo : St} {q : Nat → Int64} {o : St} {b L : Nat} {xs : Nat → Int32} {i : Int32} {ls : Array Slot} (C0 : CX p s m args c R_La code 7 D (TYS cI cZ cJ) A) (hX : va_X b L xs s s.heap) (hbl : b < s.heap.size) (hbA : ¬ A b) (h1 : vp_in (i + 1) L) (h2 : vp_in (i + 2) L) (h3 : vp_in (i + 3) L) (h4 : vp_in (i + 4) L) (hI : INV gGo gFo gPk qPk gSk gAi gSh gJo o) (hP : va_P D vwCl ((wCc xCc cI cZ xGo xFo xPk xSk xAi xSh xJo gGo gFo gPk qPk gSk gAi gSh gJo ++ ([(xo, .inl (cJ, 1, .inr (.inl q)))] : va_W)) ++ wMo xMo cI cZ o) H) (hD : va_D A ((wCc xCc cI cZ xGo xFo xPk xSk xAi xSh xJo gGo gFo gPk qPk gSk gAi gSh gJo ++ ([(xo, .inl (cJ, 1, .inr (.inl q)))] : va_W)) ++ wMo xMo cI cZ o)) (hS : va_S A s.heap H locs) (hl : lv_has ls 7 [(4, .int i), (3, .ref xo), (2, .ref (xMo 0)), (1, .ref xCc), (0, .ref b)]) (hcs : cells + 1 ≤ room_1.cells ∧ slots + 6 ≤ room_1.slots)
    (kk : ∀ (gGo1 : St) (gFo1 : St) (gPk1 : St) (qPk1 : Int64) (gSk1 : St) (gAi1 : St) (gSh1 : St) (gJo1 : St) (q1 : Nat → Int64) (o1 : St) (H1 : Heap) (locs1 : List Loc) (ls1 : Array Slot), INV gGo1 gFo1 gPk1 qPk1 gSk1 gAi1 gSh1 gJo1 o1 → va_P D vwCl ((wCc xCc cI cZ xGo xFo xPk xSk xAi xSh xJo gGo1 gFo1 gPk1 qPk1 gSk1 gAi1 gSh1 gJo1 ++ ([(xo, .inl (cJ, 1, .inr (.inl q1)))] : va_W)) ++ wMo xMo cI cZ o1) H1 → va_D A ((wCc xCc cI cZ xGo xFo xPk xSk xAi xSh xJo gGo1 gFo1 gPk1 qPk1 gSk1 gAi1 gSh1 gJo1 ++ ([(xo, .inl (cJ, 1, .inr (.inl q1)))] : va_W)) ++ wMo xMo cI cZ o1) → va_S A s.heap H1 locs1 → lv_has ls1 7 [(4, .int i), (3, .ref xo), (2, .ref (xMo 0)), (1, .ref xCc), (0, .ref b)] → W p l e room_1 s m args below meth c H1 locs1 (cells + 1) (slots + 6) Q (F0 m 1629 ls1 [])) : W p l e room_1 s m args below meth c H locs cells slots Q (F0 m 1449 ls []) := by
  obtain ⟨hx, hb, -, hown, hts, hK, hE, -⟩ := id C0
  refine lv_aload_n hx hb d_law_1449 rfl (lv_at hl 3 rfl) ?_
  refine lv_aload_n hx hb d_law_1450 rfl (lv_at hl 4 rfl) ?_
  refine lv_iload hx hb d_law_1451 (lv_at hl 0 rfl) ?_
  refine lv_iconst (v := 1) hx hb d_law_1453 (by decide) ?_
  refine lv_iadd hx hb d_law_1454 ?_
  refine va_sld hx hb hX hbl hbA hS h1 d_law_1455 ?_
  refine lv_aload_n hx hb d_law_1456 rfl (lv_at hl 4 rfl) ?_
  refine lv_iload hx hb d_law_1457 (lv_at hl 0 rfl) ?_
  refine lv_iconst (v := 2) hx hb d_law_1459 (by decide) ?_
  refine lv_iadd hx hb d_law_1460 ?_
  refine va_sld hx hb hX hbl hbA hS h2 d_law_1461 ?_
  refine lv_aload_n hx hb d_law_1462 rfl (lv_at hl 1 rfl) ?_
  obtain ⟨k, r, gJo1, q1, o1, hM, hm, ht, hq, hI1⟩ := g_route (l := l) (D := D) (cJ := cJ) (xCc := xCc) (xGo := xGo) (xFo := xFo) (xPk := xPk) (xSk := xSk) (xAi := xAi) (xSh := xSh) (xJo := xJo) (cI := cI) (cZ := cZ) (xo := xo) (q := q) hltr hI (xs (i + 1).toNatClampNeg) (xs (i + 2).toNatClampNeg)
  refine cW (ws' := (wCc xCc cI cZ xGo xFo xPk xSk xAi xSh xJo gGo gFo gPk qPk gSk gAi gSh gJo1 ++ ([(xo, .inl (cJ, 1, .inr (.inl q1)))] : va_W)) ++ wMo xMo cI cZ o) (As := [.ref xCc, .int (xs (i + 1).toNatClampNeg), .int (xs (i + 2).toNatClampNeg), .ref xo]) (rest := []) C0 hP hD hS hl.1 [0, 1, 2, 3, 4, 5, 6, 7, 8, 9, 10, 11, 12, 13, 14, 15, 16, 17, 18, 19, 20, 21, 22, 23, 24, 25, 26, 27, 28] (hM H.size) kw_route m_660 (C_pre rfl) rfl rfl (rp_pre rfl rfl) ⟨by decide, by decide⟩ ⟨rfl, rfl⟩ rfl (Nat.le_of_ble_eq_true rfl) d_law_1463 hcs (fun H locs hP hD hS => ?_)
  refine lv_istore (lv' := [(5, .int k), (4, .int i), (3, .ref xo), (2, .ref (xMo 0)), (1, .ref xCc), (0, .ref b)]) hx hb d_law_1466 hl (by decide) rfl (fun ls hl => ?_)
  refine lv_aload_n hx hb d_law_1468 rfl (lv_at hl 3 rfl) ?_
  refine lv_aload_n hx hb d_law_1469 rfl (lv_at hl 5 rfl) ?_
  refine lv_iload hx hb d_law_1470 (lv_at hl 1 rfl) ?_
  refine lv_iconst (v := 1) hx hb d_law_1472 (by decide) ?_
  refine lv_iadd hx hb d_law_1473 ?_
  refine va_sld hx hb hX hbl hbA hS h1 d_law_1474 ?_
  refine lv_aload_n hx hb d_law_1475 rfl (lv_at hl 5 rfl) ?_
  refine lv_iload hx hb d_law_1476 (lv_at hl 1 rfl) ?_
  refine lv_iconst (v := 2) hx hb d_law_1478 (by decide) ?_
  refine lv_iadd hx hb d_law_1479 ?_
  refine va_sld hx hb hX hbl hbA hS h2 d_law_1480 ?_
  refine cVi (ws' := (wCc xCc cI cZ xGo xFo xPk xSk xAi xSh xJo gGo gFo gPk qPk gSk gAi gSh gJo1 ++ ([(xo, .inl (cJ, 1, .inr (.inl q1)))] : va_W)) ++ wMo xMo cI cZ o1) (As := [.int (xs (i + 1).toNatClampNeg), .int (xs (i + 2).toNatClampNeg)]) (rest := []) C0 hP hD hS hl.1 [29, 30, 31, 32, 33, 34, 35, 36, 37, 38, 39, 40, 41, 42, 43, 44] (c_Mo_route_r l D cI cZ cJ xMo H.size o (xs (i + 1).toNatClampNeg) (xs (i + 2).toNatClampNeg) r o1 hm) k_Mo_route m_933 rfl rfl (C_suf rfl) rfl rfl (rp_suf rfl rfl) ⟨by decide, by decide⟩ ⟨rfl, rfl⟩ rfl (Nat.le_of_ble_eq_true rfl) d_law_1481 ⟨hcs.1, hcs.2⟩ (fun H locs hP hD hS => ?_)
  refine lv_istore (lv' := [(6, .int r), (5, .int k), (4, .int i), (3, .ref xo), (2, .ref (xMo 0)), (1, .ref xCc), (0, .ref b)]) hx hb d_law_1484 hl (by decide) rfl (fun ls hl => ?_)
  refine lv_aload_n hx hb d_law_1486 rfl (lv_at hl 4 rfl) ?_
  refine cVi (ws' := (wCc xCc cI cZ xGo xFo xPk xSk xAi xSh xJo gGo gFo gPk qPk gSk gAi gSh gJo1 ++ ([(xo, .inl (cJ, 1, .inr (.inl q1)))] : va_W)) ++ wMo xMo cI cZ o1) (As := []) (rest := []) C0 hP hD hS hl.1 [29, 30, 31, 32, 33, 34, 35, 36, 37, 38, 39, 40, 41, 42, 43, 44] (c_Mo_thrown_r l D cI cZ cJ xMo H.size o1 (o1 0 0) rfl) k_Mo_thrown m_798 rfl rfl (C_suf rfl) rfl rfl (rp_same (C_suf rfl)) ⟨by decide, by decide⟩ ⟨rfl, rfl⟩ rfl (Nat.le_of_ble_eq_true rfl) d_law_1487 ⟨hcs.1, hcs.2⟩ (fun H locs hP hD hS => ?_)
  refine lv_iload hx hb d_law_1490 (lv_at hl 1 rfl) ?_
  refine lv_icmp_eq (tgt := 1497) hx hb d_law_1492 (by decide) (fun _ => ?_) (fun hne => absurd ht hne)
  refine lv_iload hx hb d_law_1497 (lv_at hl 1 rfl) ?_
  have fin : W p l e room_1 s m args below meth c H locs (cells + 1) (slots + 6) Q (F0 m 1514 ls []) := by
    refine lv_goto (tgt := 1629) hx hb d_law_1514 (by decide) ?_
    exact kk gGo gFo gPk qPk gSk gAi gSh gJo1 q1 o1 H locs ls hI1 hP hD hS (lv_sub hl [2, 3, 4, 5, 6] rfl)
  refine lv_if_ne (tgt := 1514) hx hb d_law_1499 (by decide) (fun _ => fin) (fun hk0 => ?_)
  refine lv_aload_n hx hb d_law_1502 rfl (lv_at hl 3 rfl) ?_
  refine lv_iconst (v := 0) hx hb d_law_1503 (by decide) ?_
  refine va_lald hx hb hK hP 28 2 rfl rfl (inb_in (by decide)) d_law_1504 ?_
  refine lv_iload hx hb d_law_1505 (lv_at hl 0 rfl) ?_
  refine lv_i2l (v := r.toInt64) hx hb d_law_1507 rfl ?_
  refine W.lcmp hx hb d_law_1508 ?_
  refine lv_if_eq (tgt := 1514) hx hb d_law_1509 (by decide) (fun _ => fin) (fun hne => absurd (by rw [hq hk0]; exact lg_self _) hne)
set_option maxRecDepth 100000 in
set_option maxHeartbeats 4000000 in
theorem lw_drop {p : Program} {l : Launch} {e : Env} {s : State} {m : MethodId} {args : Array Value} {below : List Frame} {meth : Method} {c : Code} {H : Heap} {locs : List Loc} {cells slots : Nat} {Q : State → Prop} (hltr : l.stackTraces = false) {D : va_G} {cI cZ cJ : ClassId} {A : Nat → Prop} {xCc : Nat} {xGo : Nat → Nat} {xFo : Nat → Nat} {xPk : Nat → Nat} {xSk : Nat → Nat} {xAi : Nat → Nat} {xSh : Nat → Nat} {xJo : Nat → Nat} {xo : Nat} {xMo : Nat → Nat} {gGo : St} {gFo : St} {gPk : St} {qPk : Int64} {gSk : St} {gAi : St} {gSh : St} {gJo : St} {q : Nat → Int64} {o : St} {b L : Nat} {xs : Nat → Int32} {i : Int32} {ls : Array Slot} (C0 : CX p s m args c R_La code 7 D (TYS cI cZ cJ) A) (hX : va_X b L xs s s.heap) (hbl : b < s.heap.size) (hbA : ¬ A b) (h1 : vp_in (i + 1) L) (h2 : vp_in (i + 2) L) (h3 : vp_in (i + 3) L) (h4 : vp_in (i + 4) L) (hI : INV gGo gFo gPk qPk gSk gAi gSh gJo o) (hP : va_P D vwCl ((wCc xCc cI cZ xGo xFo xPk xSk xAi xSh xJo gGo gFo gPk qPk gSk gAi gSh gJo ++ ([(xo, .inl (cJ, 1, .inr (.inl q)))] : va_W)) ++ wMo xMo cI cZ o) H) (hD : va_D A ((wCc xCc cI cZ xGo xFo xPk xSk xAi xSh xJo gGo gFo gPk qPk gSk gAi gSh gJo ++ ([(xo, .inl (cJ, 1, .inr (.inl q)))] : va_W)) ++ wMo xMo cI cZ o)) (hS : va_S A s.heap H locs) (hl : lv_has ls 7 [(4, .int i), (3, .ref xo), (2, .ref (xMo 0)), (1, .ref xCc), (0, .ref b)]) (hcs : cells + 1 ≤ room_1.cells ∧ slots + 6 ≤ room_1.slots)
    (kk : ∀ (gGo1 : St) (gFo1 : St) (gPk1 : St) (qPk1 : Int64) (gSk1 : St) (gAi1 : St) (gSh1 : St) (gJo1 : St) (q1 : Nat → Int64) (o1 : St) (H1 : Heap) (locs1 : List Loc) (ls1 : Array Slot), INV gGo1 gFo1 gPk1 qPk1 gSk1 gAi1 gSh1 gJo1 o1 → va_P D vwCl ((wCc xCc cI cZ xGo xFo xPk xSk xAi xSh xJo gGo1 gFo1 gPk1 qPk1 gSk1 gAi1 gSh1 gJo1 ++ ([(xo, .inl (cJ, 1, .inr (.inl q1)))] : va_W)) ++ wMo xMo cI cZ o1) H1 → va_D A ((wCc xCc cI cZ xGo xFo xPk xSk xAi xSh xJo gGo1 gFo1 gPk1 qPk1 gSk1 gAi1 gSh1 gJo1 ++ ([(xo, .inl (cJ, 1, .inr (.inl q1)))] : va_W)) ++ wMo xMo cI cZ o1) → va_S A s.heap H1 locs1 → lv_has ls1 7 [(4, .int i), (3, .ref xo), (2, .ref (xMo 0)), (1, .ref xCc), (0, .ref b)] → W p l e room_1 s m args below meth c H1 locs1 (cells + 1) (slots + 6) Q (F0 m 1629 ls1 [])) : W p l e room_1 s m args below meth c H locs cells slots Q (F0 m 1517 ls []) := by
  obtain ⟨hx, hb, -, hown, hts, hK, hE, -⟩ := id C0
  refine lv_aload_n hx hb d_law_1517 rfl (lv_at hl 3 rfl) ?_
  refine lv_aload_n hx hb d_law_1518 rfl (lv_at hl 4 rfl) ?_
  refine lv_iload hx hb d_law_1519 (lv_at hl 0 rfl) ?_
  refine lv_iconst (v := 1) hx hb d_law_1521 (by decide) ?_
  refine lv_iadd hx hb d_law_1522 ?_
  refine va_sld hx hb hX hbl hbA hS h1 d_law_1523 ?_
  refine lv_aload_n hx hb d_law_1524 rfl (lv_at hl 1 rfl) ?_
  obtain ⟨k, r, q1, o1, hM, hm, ht, hq, hI1⟩ := g_drop (l := l) (D := D) (cJ := cJ) (xCc := xCc) (xGo := xGo) (xFo := xFo) (xPk := xPk) (xSk := xSk) (xAi := xAi) (xSh := xSh) (xJo := xJo) (cI := cI) (cZ := cZ) (xo := xo) (q := q) hltr hI (xs (i + 1).toNatClampNeg)
  refine cW (ws' := (wCc xCc cI cZ xGo xFo xPk xSk xAi xSh xJo gGo gFo gPk qPk gSk gAi gSh gJo ++ ([(xo, .inl (cJ, 1, .inr (.inl q1)))] : va_W)) ++ wMo xMo cI cZ o) (As := [.ref xCc, .int (xs (i + 1).toNatClampNeg), .ref xo]) (rest := []) C0 hP hD hS hl.1 [0, 1, 2, 3, 4, 5, 6, 7, 8, 9, 10, 11, 12, 13, 14, 15, 16, 17, 18, 19, 20, 21, 22, 23, 24, 25, 26, 27, 28] (hM H.size) kw_drop m_674 (C_pre rfl) rfl rfl (rp_pre rfl rfl) ⟨by decide, by decide⟩ ⟨rfl, rfl⟩ rfl (Nat.le_of_ble_eq_true rfl) d_law_1525 hcs (fun H locs hP hD hS => ?_)
  refine lv_istore (lv' := [(5, .int k), (4, .int i), (3, .ref xo), (2, .ref (xMo 0)), (1, .ref xCc), (0, .ref b)]) hx hb d_law_1528 hl (by decide) rfl (fun ls hl => ?_)
  refine lv_aload_n hx hb d_law_1530 rfl (lv_at hl 3 rfl) ?_
  refine lv_aload_n hx hb d_law_1531 rfl (lv_at hl 5 rfl) ?_
  refine lv_iload hx hb d_law_1532 (lv_at hl 1 rfl) ?_
  refine lv_iconst (v := 1) hx hb d_law_1534 (by decide) ?_
  refine lv_iadd hx hb d_law_1535 ?_
  refine va_sld hx hb hX hbl hbA hS h1 d_law_1536 ?_
  refine cVi (ws' := (wCc xCc cI cZ xGo xFo xPk xSk xAi xSh xJo gGo gFo gPk qPk gSk gAi gSh gJo ++ ([(xo, .inl (cJ, 1, .inr (.inl q1)))] : va_W)) ++ wMo xMo cI cZ o1) (As := [.int (xs (i + 1).toNatClampNeg)]) (rest := []) C0 hP hD hS hl.1 [29, 30, 31, 32, 33, 34, 35, 36, 37, 38, 39, 40, 41, 42, 43, 44] (c_Mo_drop_r l D cI cZ cJ xMo H.size o (xs (i + 1).toNatClampNeg) r o1 hm) k_Mo_drop m_939 rfl rfl (C_suf rfl) rfl rfl (rp_suf rfl rfl) ⟨by decide, by decide⟩ ⟨rfl, rfl⟩ rfl (Nat.le_of_ble_eq_true rfl) d_law_1537 ⟨hcs.1, hcs.2⟩ (fun H locs hP hD hS => ?_)
  refine lv_istore (lv' := [(6, .int r), (5, .int k), (4, .int i), (3, .ref xo), (2, .ref (xMo 0)), (1, .ref xCc), (0, .ref b)]) hx hb d_law_1540 hl (by decide) rfl (fun ls hl => ?_)
  refine lv_aload_n hx hb d_law_1542 rfl (lv_at hl 4 rfl) ?_
  refine cVi (ws' := (wCc xCc cI cZ xGo xFo xPk xSk xAi xSh xJo gGo gFo gPk qPk gSk gAi gSh gJo ++ ([(xo, .inl (cJ, 1, .inr (.inl q1)))] : va_W)) ++ wMo xMo cI cZ o1) (As := []) (rest := []) C0 hP hD hS hl.1 [29, 30, 31, 32, 33, 34, 35, 36, 37, 38, 39, 40, 41, 42, 43, 44] (c_Mo_thrown_r l D cI cZ cJ xMo H.size o1 (o1 0 0) rfl) k_Mo_thrown m_798 rfl rfl (C_suf rfl) rfl rfl (rp_same (C_suf rfl)) ⟨by decide, by decide⟩ ⟨rfl, rfl⟩ rfl (Nat.le_of_ble_eq_true rfl) d_law_1543 ⟨hcs.1, hcs.2⟩ (fun H locs hP hD hS => ?_)
  refine lv_iload hx hb d_law_1546 (lv_at hl 1 rfl) ?_
  refine lv_icmp_eq (tgt := 1553) hx hb d_law_1548 (by decide) (fun _ => ?_) (fun hne => absurd ht hne)
  refine lv_iload hx hb d_law_1553 (lv_at hl 1 rfl) ?_
  have fin : W p l e room_1 s m args below meth c H locs (cells + 1) (slots + 6) Q (F0 m 1570 ls []) := by
    refine lv_goto (tgt := 1629) hx hb d_law_1570 (by decide) ?_
    exact kk gGo gFo gPk qPk gSk gAi gSh gJo q1 o1 H locs ls hI1 hP hD hS (lv_sub hl [2, 3, 4, 5, 6] rfl)
  refine lv_if_ne (tgt := 1570) hx hb d_law_1555 (by decide) (fun _ => fin) (fun hk0 => ?_)
  refine lv_aload_n hx hb d_law_1558 rfl (lv_at hl 3 rfl) ?_
  refine lv_iconst (v := 0) hx hb d_law_1559 (by decide) ?_
  refine va_lald hx hb hK hP 28 2 rfl rfl (inb_in (by decide)) d_law_1560 ?_
  refine lv_iload hx hb d_law_1561 (lv_at hl 0 rfl) ?_
  refine lv_i2l (v := r.toInt64) hx hb d_law_1563 rfl ?_
  refine W.lcmp hx hb d_law_1564 ?_
  refine lv_if_eq (tgt := 1570) hx hb d_law_1565 (by decide) (fun _ => fin) (fun hne => absurd (by rw [hq hk0]; exact lg_self _) hne)
set_option maxRecDepth 100000 in
set_option maxHeartbeats 4000000 in
theorem lw_count {p : Program} {l : Launch} {e : Env} {s : State} {m : MethodId} {args : Array Value} {below : List Frame} {meth : Method} {c : Code} {H : Heap} {locs : List Loc} {cells slots : Nat} {Q : State → Prop} (hltr : l.stackTraces = false) {D : va_G} {cI cZ cJ : ClassId} {A : Nat → Prop} {xCc : Nat} {xGo : Nat → Nat} {xFo : Nat → Nat} {xPk : Nat → Nat} {xSk : Nat → Nat} {xAi : Nat → Nat} {xSh : Nat → Nat} {xJo : Nat → Nat} {xo : Nat} {xMo : Nat → Nat} {gGo : St} {gFo : St} {gPk : St} {qPk : Int64} {gSk : St} {gAi : St} {gSh : St} {gJo : St} {q : Nat → Int64} {o : St} {b L : Nat} {xs : Nat → Int32} {i : Int32} {ls : Array Slot} (C0 : CX p s m args c R_La code 7 D (TYS cI cZ cJ) A) (hX : va_X b L xs s s.heap) (hbl : b < s.heap.size) (hbA : ¬ A b) (h1 : vp_in (i + 1) L) (h2 : vp_in (i + 2) L) (h3 : vp_in (i + 3) L) (h4 : vp_in (i + 4) L) (hI : INV gGo gFo gPk qPk gSk gAi gSh gJo o) (hP : va_P D vwCl ((wCc xCc cI cZ xGo xFo xPk xSk xAi xSh xJo gGo gFo gPk qPk gSk gAi gSh gJo ++ ([(xo, .inl (cJ, 1, .inr (.inl q)))] : va_W)) ++ wMo xMo cI cZ o) H) (hD : va_D A ((wCc xCc cI cZ xGo xFo xPk xSk xAi xSh xJo gGo gFo gPk qPk gSk gAi gSh gJo ++ ([(xo, .inl (cJ, 1, .inr (.inl q)))] : va_W)) ++ wMo xMo cI cZ o)) (hS : va_S A s.heap H locs) (hl : lv_has ls 7 [(4, .int i), (3, .ref xo), (2, .ref (xMo 0)), (1, .ref xCc), (0, .ref b)]) (hcs : cells + 1 ≤ room_1.cells ∧ slots + 6 ≤ room_1.slots)
    (kk : ∀ (gGo1 : St) (gFo1 : St) (gPk1 : St) (qPk1 : Int64) (gSk1 : St) (gAi1 : St) (gSh1 : St) (gJo1 : St) (q1 : Nat → Int64) (o1 : St) (H1 : Heap) (locs1 : List Loc) (ls1 : Array Slot), INV gGo1 gFo1 gPk1 qPk1 gSk1 gAi1 gSh1 gJo1 o1 → va_P D vwCl ((wCc xCc cI cZ xGo xFo xPk xSk xAi xSh xJo gGo1 gFo1 gPk1 qPk1 gSk1 gAi1 gSh1 gJo1 ++ ([(xo, .inl (cJ, 1, .inr (.inl q1)))] : va_W)) ++ wMo xMo cI cZ o1) H1 → va_D A ((wCc xCc cI cZ xGo xFo xPk xSk xAi xSh xJo gGo1 gFo1 gPk1 qPk1 gSk1 gAi1 gSh1 gJo1 ++ ([(xo, .inl (cJ, 1, .inr (.inl q1)))] : va_W)) ++ wMo xMo cI cZ o1) → va_S A s.heap H1 locs1 → lv_has ls1 7 [(4, .int i), (3, .ref xo), (2, .ref (xMo 0)), (1, .ref xCc), (0, .ref b)] → W p l e room_1 s m args below meth c H1 locs1 (cells + 1) (slots + 6) Q (F0 m 1629 ls1 [])) : W p l e room_1 s m args below meth c H locs cells slots Q (F0 m 1573 ls []) := by
  obtain ⟨hx, hb, -, hown, hts, hK, hE, -⟩ := id C0
  refine lv_aload_n hx hb d_law_1573 rfl (lv_at hl 3 rfl) ?_
  refine lv_aload_n hx hb d_law_1574 rfl (lv_at hl 4 rfl) ?_
  refine lv_iload hx hb d_law_1575 (lv_at hl 0 rfl) ?_
  refine lv_iconst (v := 1) hx hb d_law_1577 (by decide) ?_
  refine lv_iadd hx hb d_law_1578 ?_
  refine va_sld hx hb hX hbl hbA hS h1 d_law_1579 ?_
  refine lv_aload_n hx hb d_law_1580 rfl (lv_at hl 1 rfl) ?_
  obtain ⟨k, r, q1, o1, hM, hm, ht, hq, hI1⟩ := g_count (l := l) (D := D) (cJ := cJ) (xCc := xCc) (xGo := xGo) (xFo := xFo) (xPk := xPk) (xSk := xSk) (xAi := xAi) (xSh := xSh) (xJo := xJo) (cI := cI) (cZ := cZ) (xo := xo) (q := q) hltr hI (xs (i + 1).toNatClampNeg)
  refine cW (ws' := (wCc xCc cI cZ xGo xFo xPk xSk xAi xSh xJo gGo gFo gPk qPk gSk gAi gSh gJo ++ ([(xo, .inl (cJ, 1, .inr (.inl q1)))] : va_W)) ++ wMo xMo cI cZ o) (As := [.ref xCc, .int (xs (i + 1).toNatClampNeg), .ref xo]) (rest := []) C0 hP hD hS hl.1 [0, 1, 2, 3, 4, 5, 6, 7, 8, 9, 10, 11, 12, 13, 14, 15, 16, 17, 18, 19, 20, 21, 22, 23, 24, 25, 26, 27, 28] (hM H.size) kw_count m_686 (C_pre rfl) rfl rfl (rp_pre rfl rfl) ⟨by decide, by decide⟩ ⟨rfl, rfl⟩ rfl (Nat.le_of_ble_eq_true rfl) d_law_1581 hcs (fun H locs hP hD hS => ?_)
  refine lv_istore (lv' := [(5, .int k), (4, .int i), (3, .ref xo), (2, .ref (xMo 0)), (1, .ref xCc), (0, .ref b)]) hx hb d_law_1584 hl (by decide) rfl (fun ls hl => ?_)
  refine lv_aload_n hx hb d_law_1586 rfl (lv_at hl 3 rfl) ?_
  refine lv_aload_n hx hb d_law_1587 rfl (lv_at hl 5 rfl) ?_
  refine lv_iload hx hb d_law_1588 (lv_at hl 1 rfl) ?_
  refine lv_iconst (v := 1) hx hb d_law_1590 (by decide) ?_
  refine lv_iadd hx hb d_law_1591 ?_
  refine va_sld hx hb hX hbl hbA hS h1 d_law_1592 ?_
  refine cVi (ws' := (wCc xCc cI cZ xGo xFo xPk xSk xAi xSh xJo gGo gFo gPk qPk gSk gAi gSh gJo ++ ([(xo, .inl (cJ, 1, .inr (.inl q1)))] : va_W)) ++ wMo xMo cI cZ o1) (As := [.int (xs (i + 1).toNatClampNeg)]) (rest := []) C0 hP hD hS hl.1 [29, 30, 31, 32, 33, 34, 35, 36, 37, 38, 39, 40, 41, 42, 43, 44] (c_Mo_count_r l D cI cZ cJ xMo H.size o (xs (i + 1).toNatClampNeg) r o1 hm) k_Mo_count m_943 rfl rfl (C_suf rfl) rfl rfl (rp_suf rfl rfl) ⟨by decide, by decide⟩ ⟨rfl, rfl⟩ rfl (Nat.le_of_ble_eq_true rfl) d_law_1593 ⟨hcs.1, hcs.2⟩ (fun H locs hP hD hS => ?_)
  refine lv_istore (lv' := [(6, .int r), (5, .int k), (4, .int i), (3, .ref xo), (2, .ref (xMo 0)), (1, .ref xCc), (0, .ref b)]) hx hb d_law_1596 hl (by decide) rfl (fun ls hl => ?_)
  refine lv_aload_n hx hb d_law_1598 rfl (lv_at hl 4 rfl) ?_
  refine cVi (ws' := (wCc xCc cI cZ xGo xFo xPk xSk xAi xSh xJo gGo gFo gPk qPk gSk gAi gSh gJo ++ ([(xo, .inl (cJ, 1, .inr (.inl q1)))] : va_W)) ++ wMo xMo cI cZ o1) (As := []) (rest := []) C0 hP hD hS hl.1 [29, 30, 31, 32, 33, 34, 35, 36, 37, 38, 39, 40, 41, 42, 43, 44] (c_Mo_thrown_r l D cI cZ cJ xMo H.size o1 (o1 0 0) rfl) k_Mo_thrown m_798 rfl rfl (C_suf rfl) rfl rfl (rp_same (C_suf rfl)) ⟨by decide, by decide⟩ ⟨rfl, rfl⟩ rfl (Nat.le_of_ble_eq_true rfl) d_law_1599 ⟨hcs.1, hcs.2⟩ (fun H locs hP hD hS => ?_)
  refine lv_iload hx hb d_law_1602 (lv_at hl 1 rfl) ?_
  refine lv_icmp_eq (tgt := 1609) hx hb d_law_1604 (by decide) (fun _ => ?_) (fun hne => absurd ht hne)
  refine lv_iload hx hb d_law_1609 (lv_at hl 1 rfl) ?_
  have fin : W p l e room_1 s m args below meth c H locs (cells + 1) (slots + 6) Q (F0 m 1626 ls []) := by
    refine lv_goto (tgt := 1629) hx hb d_law_1626 (by decide) ?_
    exact kk gGo gFo gPk qPk gSk gAi gSh gJo q1 o1 H locs ls hI1 hP hD hS (lv_sub hl [2, 3, 4, 5, 6] rfl)
  refine lv_if_ne (tgt := 1626) hx hb d_law_1611 (by decide) (fun _ => fin) (fun hk0 => ?_)
  refine lv_aload_n hx hb d_law_1614 rfl (lv_at hl 3 rfl) ?_
  refine lv_iconst (v := 0) hx hb d_law_1615 (by decide) ?_
  refine va_lald hx hb hK hP 28 2 rfl rfl (inb_in (by decide)) d_law_1616 ?_
  refine lv_iload hx hb d_law_1617 (lv_at hl 0 rfl) ?_
  refine lv_i2l (v := r.toInt64) hx hb d_law_1619 rfl ?_
  refine W.lcmp hx hb d_law_1620 ?_
  refine lv_if_eq (tgt := 1626) hx hb d_law_1621 (by decide) (fun _ => fin) (fun hne => absurd (by rw [hq hk0]; exact lg_self _) hne)
