set_option maxRecDepth 100000 in
set_option maxHeartbeats 4000000 in
theorem lw_object {p : Program} {l : Launch} {e : Env} {s : State} {m : MethodId} {args : Array Value} {below : List Frame} {meth : Method} {c : Code} {H : Heap} {locs : List Loc} {cells slots : Nat} {Q : State → Prop} (hltr : l.stackTraces = false) {D : va_G} {cI cZ cJ : ClassId} {A : Nat → Prop} {xCc : Nat} {xGo : Nat → Nat} {xFo : Nat → Nat} {xPk : Nat → Nat} {xSk : Nat → Nat} {xAi : Nat → Nat} {xSh : Nat → Nat} {xJo : Nat → Nat} {xo : Nat} {xMo : Nat → Nat} {gGo : St} {gFo : St} {gPk : St} {qPk : Int64} {gSk : St} {gAi : St} {gSh : St} {gJo : St} {q : Nat → Int64} {o : St} {b L : Nat} {xs : Nat → Int32} {i : Int32} {ls : Array Slot} (C0 : CX p s m args c R_La code 7 D (TYS cI cZ cJ) A) (hX : va_X b L xs s s.heap) (hbl : b < s.heap.size) (hbA : ¬ A b) (h1 : vp_in (i + 1) L) (h2 : vp_in (i + 2) L) (h3 : vp_in (i + 3) L) (h4 : vp_in (i + 4) L) (hI : INV gGo gFo gPk qPk gSk gAi gSh gJo o) (hP : va_P D vwCl ((wCc xCc cI cZ xGo xFo xPk xSk xAi xSh xJo gGo gFo gPk qPk gSk gAi gSh gJo ++ ([(xo, .inl (cJ, 1, .inr (.inl q)))] : va_W)) ++ wMo xMo cI cZ o) H) (hD : va_D A ((wCc xCc cI cZ xGo xFo xPk xSk xAi xSh xJo gGo gFo gPk qPk gSk gAi gSh gJo ++ ([(xo, .inl (cJ, 1, .inr (.inl q)))] : va_W)) ++ wMo xMo cI cZ o)) (hS : va_S A s.heap H locs) (hl : lv_has ls 7 [(4, .int i), (3, .ref xo), (2, .ref (xMo 0)), (1, .ref xCc), (0, .ref b)]) (hcs : cells + 1 ≤ room_1.cells ∧ slots + 6 ≤ room_1.slots)
    (kk : ∀ (gGo1 : St) (gFo1 : St) (gPk1 : St) (qPk1 : Int64) (gSk1 : St) (gAi1 : St) (gSh1 : St) (gJo1 : St) (q1 : Nat → Int64) (o1 : St) (H1 : Heap) (locs1 : List Loc) (ls1 : Array Slot), INV gGo1 gFo1 gPk1 qPk1 gSk1 gAi1 gSh1 gJo1 o1 → va_P D vwCl ((wCc xCc cI cZ xGo xFo xPk xSk xAi xSh xJo gGo1 gFo1 gPk1 qPk1 gSk1 gAi1 gSh1 gJo1 ++ ([(xo, .inl (cJ, 1, .inr (.inl q1)))] : va_W)) ++ wMo xMo cI cZ o1) H1 → va_D A ((wCc xCc cI cZ xGo xFo xPk xSk xAi xSh xJo gGo1 gFo1 gPk1 qPk1 gSk1 gAi1 gSh1 gJo1 ++ ([(xo, .inl (cJ, 1, .inr (.inl q1)))] : va_W)) ++ wMo xMo cI cZ o1) → va_S A s.heap H1 locs1 → lv_has ls1 7 [(4, .int i), (3, .ref xo), (2, .ref (xMo 0)), (1, .ref xCc), (0, .ref b)] → W p l e room_1 s m args below meth c H1 locs1 (cells + 1) (slots + 6) Q (F0 m 1629 ls1 [])) : W p l e room_1 s m args below meth c H locs cells slots Q (F0 m 140 ls []) := by
  obtain ⟨hx, hb, -, hown, hts, hK, hE, -⟩ := id C0
  refine lv_aload_n hx hb d_law_140 rfl (lv_at hl 3 rfl) ?_
  refine lv_aload_n hx hb d_law_141 rfl (lv_at hl 4 rfl) ?_
  refine lv_iload hx hb d_law_142 (lv_at hl 0 rfl) ?_
  refine lv_iconst (v := 1) hx hb d_law_144 (by decide) ?_
  refine lv_iadd hx hb d_law_145 ?_
  refine va_sld hx hb hX hbl hbA hS h1 d_law_146 ?_
  refine lv_aload_n hx hb d_law_147 rfl (lv_at hl 4 rfl) ?_
  refine lv_iload hx hb d_law_148 (lv_at hl 0 rfl) ?_
  refine lv_iconst (v := 2) hx hb d_law_150 (by decide) ?_
  refine lv_iadd hx hb d_law_151 ?_
  refine va_sld hx hb hX hbl hbA hS h2 d_law_152 ?_
  refine lv_aload_n hx hb d_law_153 rfl (lv_at hl 4 rfl) ?_
  refine lv_iload hx hb d_law_154 (lv_at hl 0 rfl) ?_
  refine lv_iconst (v := 3) hx hb d_law_156 (by decide) ?_
  refine lv_iadd hx hb d_law_157 ?_
  refine va_sld hx hb hX hbl hbA hS h3 d_law_158 ?_
  refine lv_aload_n hx hb d_law_159 rfl (lv_at hl 4 rfl) ?_
  refine lv_iload hx hb d_law_160 (lv_at hl 0 rfl) ?_
  refine lv_iconst (v := 4) hx hb d_law_162 (by decide) ?_
  refine lv_iadd hx hb d_law_163 ?_
  refine va_sld hx hb hX hbl hbA hS h4 d_law_164 ?_
  refine lv_aload_n hx hb d_law_165 rfl (lv_at hl 1 rfl) ?_
  obtain ⟨k, r, gGo1, q1, o1, hM, hm, ht, hq, hI1⟩ := g_object (l := l) (D := D) (cJ := cJ) (xCc := xCc) (xGo := xGo) (xFo := xFo) (xPk := xPk) (xSk := xSk) (xAi := xAi) (xSh := xSh) (xJo := xJo) (cI := cI) (cZ := cZ) (xo := xo) (q := q) hltr hI (xs (i + 1).toNatClampNeg) (xs (i + 2).toNatClampNeg) (xs (i + 3).toNatClampNeg) (xs (i + 4).toNatClampNeg)
  refine cW (ws' := (wCc xCc cI cZ xGo xFo xPk xSk xAi xSh xJo gGo1 gFo gPk qPk gSk gAi gSh gJo ++ ([(xo, .inl (cJ, 1, .inr (.inl q1)))] : va_W)) ++ wMo xMo cI cZ o) (As := [.ref xCc, .int (xs (i + 1).toNatClampNeg), .int (xs (i + 2).toNatClampNeg), .int (xs (i + 3).toNatClampNeg), .int (xs (i + 4).toNatClampNeg), .ref xo]) (rest := []) C0 hP hD hS hl.1 [0, 1, 2, 3, 4, 5, 6, 7, 8, 9, 10, 11, 12, 13, 14, 15, 16, 17, 18, 19, 20, 21, 22, 23, 24, 25, 26, 27, 28] (hM H.size) kw_object m_228 (C_pre rfl) rfl rfl (rp_pre rfl rfl) ⟨by decide, by decide⟩ ⟨rfl, rfl⟩ rfl (Nat.le_of_ble_eq_true rfl) d_law_166 hcs (fun H locs hP hD hS => ?_)
  refine lv_istore (lv' := [(5, .int k), (4, .int i), (3, .ref xo), (2, .ref (xMo 0)), (1, .ref xCc), (0, .ref b)]) hx hb d_law_169 hl (by decide) rfl (fun ls hl => ?_)
  refine lv_aload_n hx hb d_law_171 rfl (lv_at hl 3 rfl) ?_
  refine lv_aload_n hx hb d_law_172 rfl (lv_at hl 5 rfl) ?_
  refine lv_iload hx hb d_law_173 (lv_at hl 1 rfl) ?_
  refine lv_iconst (v := 1) hx hb d_law_175 (by decide) ?_
  refine lv_iadd hx hb d_law_176 ?_
  refine va_sld hx hb hX hbl hbA hS h1 d_law_177 ?_
  refine lv_aload_n hx hb d_law_178 rfl (lv_at hl 5 rfl) ?_
  refine lv_iload hx hb d_law_179 (lv_at hl 1 rfl) ?_
  refine lv_iconst (v := 2) hx hb d_law_181 (by decide) ?_
  refine lv_iadd hx hb d_law_182 ?_
  refine va_sld hx hb hX hbl hbA hS h2 d_law_183 ?_
  refine lv_aload_n hx hb d_law_184 rfl (lv_at hl 5 rfl) ?_
  refine lv_iload hx hb d_law_185 (lv_at hl 1 rfl) ?_
  refine lv_iconst (v := 3) hx hb d_law_187 (by decide) ?_
  refine lv_iadd hx hb d_law_188 ?_
  refine va_sld hx hb hX hbl hbA hS h3 d_law_189 ?_
  refine lv_aload_n hx hb d_law_190 rfl (lv_at hl 5 rfl) ?_
  refine lv_iload hx hb d_law_191 (lv_at hl 1 rfl) ?_
  refine lv_iconst (v := 4) hx hb d_law_193 (by decide) ?_
  refine lv_iadd hx hb d_law_194 ?_
  refine va_sld hx hb hX hbl hbA hS h4 d_law_195 ?_
  refine cVi (ws' := (wCc xCc cI cZ xGo xFo xPk xSk xAi xSh xJo gGo1 gFo gPk qPk gSk gAi gSh gJo ++ ([(xo, .inl (cJ, 1, .inr (.inl q1)))] : va_W)) ++ wMo xMo cI cZ o1) (As := [.int (xs (i + 1).toNatClampNeg), .int (xs (i + 2).toNatClampNeg), .int (xs (i + 3).toNatClampNeg), .int (xs (i + 4).toNatClampNeg)]) (rest := []) C0 hP hD hS hl.1 [29, 30, 31, 32, 33, 34, 35, 36, 37, 38, 39, 40, 41, 42, 43, 44] (c_Mo_object_r l D cI cZ cJ xMo H.size o (xs (i + 1).toNatClampNeg) (xs (i + 2).toNatClampNeg) (xs (i + 3).toNatClampNeg) (xs (i + 4).toNatClampNeg) r o1 hm) k_Mo_object m_802 rfl rfl (C_suf rfl) rfl rfl (rp_suf rfl rfl) ⟨by decide, by decide⟩ ⟨rfl, rfl⟩ rfl (Nat.le_of_ble_eq_true rfl) d_law_196 ⟨hcs.1, hcs.2⟩ (fun H locs hP hD hS => ?_)
  refine lv_istore (lv' := [(6, .int r), (5, .int k), (4, .int i), (3, .ref xo), (2, .ref (xMo 0)), (1, .ref xCc), (0, .ref b)]) hx hb d_law_199 hl (by decide) rfl (fun ls hl => ?_)
  refine lv_aload_n hx hb d_law_201 rfl (lv_at hl 4 rfl) ?_
  refine cVi (ws' := (wCc xCc cI cZ xGo xFo xPk xSk xAi xSh xJo gGo1 gFo gPk qPk gSk gAi gSh gJo ++ ([(xo, .inl (cJ, 1, .inr (.inl q1)))] : va_W)) ++ wMo xMo cI cZ o1) (As := []) (rest := []) C0 hP hD hS hl.1 [29, 30, 31, 32, 33, 34, 35, 36, 37, 38, 39, 40, 41, 42, 43, 44] (c_Mo_thrown_r l D cI cZ cJ xMo H.size o1 (o1 0 0) rfl) k_Mo_thrown m_798 rfl rfl (C_suf rfl) rfl rfl (rp_same (C_suf rfl)) ⟨by decide, by decide⟩ ⟨rfl, rfl⟩ rfl (Nat.le_of_ble_eq_true rfl) d_law_202 ⟨hcs.1, hcs.2⟩ (fun H locs hP hD hS => ?_)
  refine lv_iload hx hb d_law_205 (lv_at hl 1 rfl) ?_
  refine lv_icmp_eq (tgt := 212) hx hb d_law_207 (by decide) (fun _ => ?_) (fun hne => absurd ht hne)
  refine lv_iload hx hb d_law_212 (lv_at hl 1 rfl) ?_
  have fin : W p l e room_1 s m args below meth c H locs (cells + 1) (slots + 6) Q (F0 m 229 ls []) := by
    refine lv_goto (tgt := 1629) hx hb d_law_229 (by decide) ?_
    exact kk gGo1 gFo gPk qPk gSk gAi gSh gJo q1 o1 H locs ls hI1 hP hD hS (lv_sub hl [2, 3, 4, 5, 6] rfl)
  refine lv_if_ne (tgt := 229) hx hb d_law_214 (by decide) (fun _ => fin) (fun hk0 => ?_)
  refine lv_aload_n hx hb d_law_217 rfl (lv_at hl 3 rfl) ?_
  refine lv_iconst (v := 0) hx hb d_law_218 (by decide) ?_
  refine va_lald hx hb hK hP 28 2 rfl rfl (inb_in (by decide)) d_law_219 ?_
  refine lv_iload hx hb d_law_220 (lv_at hl 0 rfl) ?_
  refine lv_i2l (v := r.toInt64) hx hb d_law_222 rfl ?_
  refine W.lcmp hx hb d_law_223 ?_
  refine lv_if_eq (tgt := 229) hx hb d_law_224 (by decide) (fun _ => fin) (fun hne => absurd (by rw [hq hk0]; exact lg_self _) hne)
set_option maxRecDepth 100000 in
set_option maxHeartbeats 4000000 in
theorem lw_weak {p : Program} {l : Launch} {e : Env} {s : State} {m : MethodId} {args : Array Value} {below : List Frame} {meth : Method} {c : Code} {H : Heap} {locs : List Loc} {cells slots : Nat} {Q : State → Prop} (hltr : l.stackTraces = false) {D : va_G} {cI cZ cJ : ClassId} {A : Nat → Prop} {xCc : Nat} {xGo : Nat → Nat} {xFo : Nat → Nat} {xPk : Nat → Nat} {xSk : Nat → Nat} {xAi : Nat → Nat} {xSh : Nat → Nat} {xJo : Nat → Nat} {xo : Nat} {xMo : Nat → Nat} {gGo : St} {gFo : St} {gPk : St} {qPk : Int64} {gSk : St} {gAi : St} {gSh : St} {gJo : St} {q : Nat → Int64} {o : St} {b L : Nat} {xs : Nat → Int32} {i : Int32} {ls : Array Slot} (C0 : CX p s m args c R_La code 7 D (TYS cI cZ cJ) A) (hX : va_X b L xs s s.heap) (hbl : b < s.heap.size) (hbA : ¬ A b) (h1 : vp_in (i + 1) L) (h2 : vp_in (i + 2) L) (h3 : vp_in (i + 3) L) (h4 : vp_in (i + 4) L) (hI : INV gGo gFo gPk qPk gSk gAi gSh gJo o) (hP : va_P D vwCl ((wCc xCc cI cZ xGo xFo xPk xSk xAi xSh xJo gGo gFo gPk qPk gSk gAi gSh gJo ++ ([(xo, .inl (cJ, 1, .inr (.inl q)))] : va_W)) ++ wMo xMo cI cZ o) H) (hD : va_D A ((wCc xCc cI cZ xGo xFo xPk xSk xAi xSh xJo gGo gFo gPk qPk gSk gAi gSh gJo ++ ([(xo, .inl (cJ, 1, .inr (.inl q)))] : va_W)) ++ wMo xMo cI cZ o)) (hS : va_S A s.heap H locs) (hl : lv_has ls 7 [(4, .int i), (3, .ref xo), (2, .ref (xMo 0)), (1, .ref xCc), (0, .ref b)]) (hcs : cells + 1 ≤ room_1.cells ∧ slots + 6 ≤ room_1.slots)
    (kk : ∀ (gGo1 : St) (gFo1 : St) (gPk1 : St) (qPk1 : Int64) (gSk1 : St) (gAi1 : St) (gSh1 : St) (gJo1 : St) (q1 : Nat → Int64) (o1 : St) (H1 : Heap) (locs1 : List Loc) (ls1 : Array Slot), INV gGo1 gFo1 gPk1 qPk1 gSk1 gAi1 gSh1 gJo1 o1 → va_P D vwCl ((wCc xCc cI cZ xGo xFo xPk xSk xAi xSh xJo gGo1 gFo1 gPk1 qPk1 gSk1 gAi1 gSh1 gJo1 ++ ([(xo, .inl (cJ, 1, .inr (.inl q1)))] : va_W)) ++ wMo xMo cI cZ o1) H1 → va_D A ((wCc xCc cI cZ xGo xFo xPk xSk xAi xSh xJo gGo1 gFo1 gPk1 qPk1 gSk1 gAi1 gSh1 gJo1 ++ ([(xo, .inl (cJ, 1, .inr (.inl q1)))] : va_W)) ++ wMo xMo cI cZ o1) → va_S A s.heap H1 locs1 → lv_has ls1 7 [(4, .int i), (3, .ref xo), (2, .ref (xMo 0)), (1, .ref xCc), (0, .ref b)] → W p l e room_1 s m args below meth c H1 locs1 (cells + 1) (slots + 6) Q (F0 m 1629 ls1 [])) : W p l e room_1 s m args below meth c H locs cells slots Q (F0 m 232 ls []) := by
  obtain ⟨hx, hb, -, hown, hts, hK, hE, -⟩ := id C0
  refine lv_aload_n hx hb d_law_232 rfl (lv_at hl 3 rfl) ?_
  refine lv_aload_n hx hb d_law_233 rfl (lv_at hl 4 rfl) ?_
  refine lv_iload hx hb d_law_234 (lv_at hl 0 rfl) ?_
  refine lv_iconst (v := 1) hx hb d_law_236 (by decide) ?_
  refine lv_iadd hx hb d_law_237 ?_
  refine va_sld hx hb hX hbl hbA hS h1 d_law_238 ?_
  refine lv_aload_n hx hb d_law_239 rfl (lv_at hl 4 rfl) ?_
  refine lv_iload hx hb d_law_240 (lv_at hl 0 rfl) ?_
  refine lv_iconst (v := 2) hx hb d_law_242 (by decide) ?_
  refine lv_iadd hx hb d_law_243 ?_
  refine va_sld hx hb hX hbl hbA hS h2 d_law_244 ?_
  refine lv_aload_n hx hb d_law_245 rfl (lv_at hl 4 rfl) ?_
  refine lv_iload hx hb d_law_246 (lv_at hl 0 rfl) ?_
  refine lv_iconst (v := 3) hx hb d_law_248 (by decide) ?_
  refine lv_iadd hx hb d_law_249 ?_
  refine va_sld hx hb hX hbl hbA hS h3 d_law_250 ?_
  suffices key0 : W p l e room_1 s m args below meth c H locs cells slots Q (F0 m 259 ls [.int (if xs (i + 3).toNatClampNeg = 0 then 0 else 1), .int (xs (i + 2).toNatClampNeg), .int (xs (i + 1).toNatClampNeg), .ref xCc]) by
    refine lv_if_eq (tgt := 258) hx hb d_law_251 (by decide) (fun hz => ?_) (fun hz => ?_)
    · refine lv_iconst (v := 0) hx hb d_law_258 (by decide) ?_
      rw [if_pos hz] at key0
      exact key0
    · refine lv_iconst (v := 1) hx hb d_law_254 (by decide) ?_
      refine lv_goto (tgt := 259) hx hb d_law_255 (by decide) ?_
      rw [if_neg hz] at key0
      exact key0
  refine lv_aload_n hx hb d_law_259 rfl (lv_at hl 1 rfl) ?_
  obtain ⟨k, r, gGo1, q1, o1, hM, hm, ht, hq, hI1⟩ := g_weak (l := l) (D := D) (cJ := cJ) (xCc := xCc) (xGo := xGo) (xFo := xFo) (xPk := xPk) (xSk := xSk) (xAi := xAi) (xSh := xSh) (xJo := xJo) (cI := cI) (cZ := cZ) (xo := xo) (q := q) hltr hI (xs (i + 1).toNatClampNeg) (xs (i + 2).toNatClampNeg) (if xs (i + 3).toNatClampNeg = 0 then 0 else 1) (by by_cases hz : xs (i + 3).toNatClampNeg = 0; exact Or.inl (if_pos hz); exact Or.inr (if_neg hz))
  refine cW (ws' := (wCc xCc cI cZ xGo xFo xPk xSk xAi xSh xJo gGo1 gFo gPk qPk gSk gAi gSh gJo ++ ([(xo, .inl (cJ, 1, .inr (.inl q1)))] : va_W)) ++ wMo xMo cI cZ o) (As := [.ref xCc, .int (xs (i + 1).toNatClampNeg), .int (xs (i + 2).toNatClampNeg), .int (if xs (i + 3).toNatClampNeg = 0 then 0 else 1), .ref xo]) (rest := []) C0 hP hD hS hl.1 [0, 1, 2, 3, 4, 5, 6, 7, 8, 9, 10, 11, 12, 13, 14, 15, 16, 17, 18, 19, 20, 21, 22, 23, 24, 25, 26, 27, 28] (hM H.size) kw_weak m_332 (C_pre rfl) rfl rfl (rp_pre rfl rfl) ⟨by decide, by decide⟩ ⟨rfl, rfl⟩ rfl (Nat.le_of_ble_eq_true rfl) d_law_260 hcs (fun H locs hP hD hS => ?_)
  refine lv_istore (lv' := [(5, .int k), (4, .int i), (3, .ref xo), (2, .ref (xMo 0)), (1, .ref xCc), (0, .ref b)]) hx hb d_law_263 hl (by decide) rfl (fun ls hl => ?_)
  refine lv_aload_n hx hb d_law_265 rfl (lv_at hl 3 rfl) ?_
  refine lv_aload_n hx hb d_law_266 rfl (lv_at hl 5 rfl) ?_
  refine lv_iload hx hb d_law_267 (lv_at hl 1 rfl) ?_
  refine lv_iconst (v := 1) hx hb d_law_269 (by decide) ?_
  refine lv_iadd hx hb d_law_270 ?_
  refine va_sld hx hb hX hbl hbA hS h1 d_law_271 ?_
  refine lv_aload_n hx hb d_law_272 rfl (lv_at hl 5 rfl) ?_
  refine lv_iload hx hb d_law_273 (lv_at hl 1 rfl) ?_
  refine lv_iconst (v := 2) hx hb d_law_275 (by decide) ?_
  refine lv_iadd hx hb d_law_276 ?_
  refine va_sld hx hb hX hbl hbA hS h2 d_law_277 ?_
  refine lv_aload_n hx hb d_law_278 rfl (lv_at hl 5 rfl) ?_
  refine lv_iload hx hb d_law_279 (lv_at hl 1 rfl) ?_
  refine lv_iconst (v := 3) hx hb d_law_281 (by decide) ?_
  refine lv_iadd hx hb d_law_282 ?_
  refine va_sld hx hb hX hbl hbA hS h3 d_law_283 ?_
  suffices key1 : W p l e room_1 s m args below meth c H locs (cells + 1) (slots + 6) Q (F0 m 292 ls [.int (if xs (i + 3).toNatClampNeg = 0 then 0 else 1), .int (xs (i + 2).toNatClampNeg), .int (xs (i + 1).toNatClampNeg), .ref (xMo 0)]) by
    refine lv_if_eq (tgt := 291) hx hb d_law_284 (by decide) (fun hz => ?_) (fun hz => ?_)
    · refine lv_iconst (v := 0) hx hb d_law_291 (by decide) ?_
      rw [if_pos hz] at key1
      exact key1
    · refine lv_iconst (v := 1) hx hb d_law_287 (by decide) ?_
      refine lv_goto (tgt := 292) hx hb d_law_288 (by decide) ?_
      rw [if_neg hz] at key1
      exact key1
  refine cVi (ws' := (wCc xCc cI cZ xGo xFo xPk xSk xAi xSh xJo gGo1 gFo gPk qPk gSk gAi gSh gJo ++ ([(xo, .inl (cJ, 1, .inr (.inl q1)))] : va_W)) ++ wMo xMo cI cZ o1) (As := [.int (xs (i + 1).toNatClampNeg), .int (xs (i + 2).toNatClampNeg), .int (if xs (i + 3).toNatClampNeg = 0 then 0 else 1)]) (rest := []) C0 hP hD hS hl.1 [29, 30, 31, 32, 33, 34, 35, 36, 37, 38, 39, 40, 41, 42, 43, 44] (c_Mo_weak_r l D cI cZ cJ xMo H.size o (xs (i + 1).toNatClampNeg) (xs (i + 2).toNatClampNeg) (if xs (i + 3).toNatClampNeg = 0 then 0 else 1) r o1 hm) k_Mo_weak m_814 rfl rfl (C_suf rfl) rfl rfl (rp_suf rfl rfl) ⟨by decide, by decide⟩ ⟨rfl, rfl⟩ rfl (Nat.le_of_ble_eq_true rfl) d_law_292 ⟨hcs.1, hcs.2⟩ (fun H locs hP hD hS => ?_)
  refine lv_istore (lv' := [(6, .int r), (5, .int k), (4, .int i), (3, .ref xo), (2, .ref (xMo 0)), (1, .ref xCc), (0, .ref b)]) hx hb d_law_295 hl (by decide) rfl (fun ls hl => ?_)
  refine lv_aload_n hx hb d_law_297 rfl (lv_at hl 4 rfl) ?_
  refine cVi (ws' := (wCc xCc cI cZ xGo xFo xPk xSk xAi xSh xJo gGo1 gFo gPk qPk gSk gAi gSh gJo ++ ([(xo, .inl (cJ, 1, .inr (.inl q1)))] : va_W)) ++ wMo xMo cI cZ o1) (As := []) (rest := []) C0 hP hD hS hl.1 [29, 30, 31, 32, 33, 34, 35, 36, 37, 38, 39, 40, 41, 42, 43, 44] (c_Mo_thrown_r l D cI cZ cJ xMo H.size o1 (o1 0 0) rfl) k_Mo_thrown m_798 rfl rfl (C_suf rfl) rfl rfl (rp_same (C_suf rfl)) ⟨by decide, by decide⟩ ⟨rfl, rfl⟩ rfl (Nat.le_of_ble_eq_true rfl) d_law_298 ⟨hcs.1, hcs.2⟩ (fun H locs hP hD hS => ?_)
  refine lv_iload hx hb d_law_301 (lv_at hl 1 rfl) ?_
  refine lv_icmp_eq (tgt := 308) hx hb d_law_303 (by decide) (fun _ => ?_) (fun hne => absurd ht hne)
  refine lv_iload hx hb d_law_308 (lv_at hl 1 rfl) ?_
  have fin : W p l e room_1 s m args below meth c H locs (cells + 1) (slots + 6) Q (F0 m 332 ls []) := by
    refine lv_goto (tgt := 1629) hx hb d_law_332 (by decide) ?_
    exact kk gGo1 gFo gPk qPk gSk gAi gSh gJo q1 o1 H locs ls hI1 hP hD hS (lv_sub hl [2, 3, 4, 5, 6] rfl)
  refine lv_if_ne (tgt := 332) hx hb d_law_310 (by decide) (fun _ => fin) (fun hk0 => ?_)
  refine lv_aload_n hx hb d_law_313 rfl (lv_at hl 3 rfl) ?_
  refine lv_iconst (v := 0) hx hb d_law_314 (by decide) ?_
  refine va_lald hx hb hK hP 28 2 rfl rfl (inb_in (by decide)) d_law_315 ?_
  refine lv_iload hx hb d_law_316 (lv_at hl 0 rfl) ?_
  have cmp : W p l e room_1 s m args below meth c H locs (cells + 1) (slots + 6) Q (F0 m 326 ls [.long (bz r), .long (q1 (0 : Int32).toNatClampNeg)]) := by
    refine W.lcmp hx hb d_law_326 ?_
    refine lv_if_eq (tgt := 332) hx hb d_law_327 (by decide) (fun _ => fin) (fun hne => absurd (by rw [hq hk0]; exact lg_self _) hne)
  refine lv_if_eq (tgt := 325) hx hb d_law_318 (by decide) (fun hz => ?_) (fun hz => ?_)
  · refine lv_lconst (v := 0) hx hb d_law_325 (by decide) ?_
    have e0 : bz r = 0 := if_pos hz
    rw [e0] at cmp
    exact cmp
  · refine lv_lconst (v := 1) hx hb d_law_321 (by decide) ?_
    refine lv_goto (tgt := 326) hx hb d_law_322 (by decide) ?_
    have e0 : bz r = 1 := if_neg hz
    rw [e0] at cmp
    exact cmp
set_option maxRecDepth 100000 in
set_option maxHeartbeats 4000000 in
theorem lw_foam {p : Program} {l : Launch} {e : Env} {s : State} {m : MethodId} {args : Array Value} {below : List Frame} {meth : Method} {c : Code} {H : Heap} {locs : List Loc} {cells slots : Nat} {Q : State → Prop} (hltr : l.stackTraces = false) {D : va_G} {cI cZ cJ : ClassId} {A : Nat → Prop} {xCc : Nat} {xGo : Nat → Nat} {xFo : Nat → Nat} {xPk : Nat → Nat} {xSk : Nat → Nat} {xAi : Nat → Nat} {xSh : Nat → Nat} {xJo : Nat → Nat} {xo : Nat} {xMo : Nat → Nat} {gGo : St} {gFo : St} {gPk : St} {qPk : Int64} {gSk : St} {gAi : St} {gSh : St} {gJo : St} {q : Nat → Int64} {o : St} {b L : Nat} {xs : Nat → Int32} {i : Int32} {ls : Array Slot} (C0 : CX p s m args c R_La code 7 D (TYS cI cZ cJ) A) (hX : va_X b L xs s s.heap) (hbl : b < s.heap.size) (hbA : ¬ A b) (h1 : vp_in (i + 1) L) (h2 : vp_in (i + 2) L) (h3 : vp_in (i + 3) L) (h4 : vp_in (i + 4) L) (hI : INV gGo gFo gPk qPk gSk gAi gSh gJo o) (hP : va_P D vwCl ((wCc xCc cI cZ xGo xFo xPk xSk xAi xSh xJo gGo gFo gPk qPk gSk gAi gSh gJo ++ ([(xo, .inl (cJ, 1, .inr (.inl q)))] : va_W)) ++ wMo xMo cI cZ o) H) (hD : va_D A ((wCc xCc cI cZ xGo xFo xPk xSk xAi xSh xJo gGo gFo gPk qPk gSk gAi gSh gJo ++ ([(xo, .inl (cJ, 1, .inr (.inl q)))] : va_W)) ++ wMo xMo cI cZ o)) (hS : va_S A s.heap H locs) (hl : lv_has ls 7 [(4, .int i), (3, .ref xo), (2, .ref (xMo 0)), (1, .ref xCc), (0, .ref b)]) (hcs : cells + 1 ≤ room_1.cells ∧ slots + 6 ≤ room_1.slots)
    (kk : ∀ (gGo1 : St) (gFo1 : St) (gPk1 : St) (qPk1 : Int64) (gSk1 : St) (gAi1 : St) (gSh1 : St) (gJo1 : St) (q1 : Nat → Int64) (o1 : St) (H1 : Heap) (locs1 : List Loc) (ls1 : Array Slot), INV gGo1 gFo1 gPk1 qPk1 gSk1 gAi1 gSh1 gJo1 o1 → va_P D vwCl ((wCc xCc cI cZ xGo xFo xPk xSk xAi xSh xJo gGo1 gFo1 gPk1 qPk1 gSk1 gAi1 gSh1 gJo1 ++ ([(xo, .inl (cJ, 1, .inr (.inl q1)))] : va_W)) ++ wMo xMo cI cZ o1) H1 → va_D A ((wCc xCc cI cZ xGo xFo xPk xSk xAi xSh xJo gGo1 gFo1 gPk1 qPk1 gSk1 gAi1 gSh1 gJo1 ++ ([(xo, .inl (cJ, 1, .inr (.inl q1)))] : va_W)) ++ wMo xMo cI cZ o1) → va_S A s.heap H1 locs1 → lv_has ls1 7 [(4, .int i), (3, .ref xo), (2, .ref (xMo 0)), (1, .ref xCc), (0, .ref b)] → W p l e room_1 s m args below meth c H1 locs1 (cells + 1) (slots + 6) Q (F0 m 1629 ls1 [])) : W p l e room_1 s m args below meth c H locs cells slots Q (F0 m 335 ls []) := by
  obtain ⟨hx, hb, -, hown, hts, hK, hE, -⟩ := id C0
  refine lv_aload_n hx hb d_law_335 rfl (lv_at hl 3 rfl) ?_
  refine lv_aload_n hx hb d_law_336 rfl (lv_at hl 4 rfl) ?_
  refine lv_iload hx hb d_law_337 (lv_at hl 0 rfl) ?_
  refine lv_iconst (v := 1) hx hb d_law_339 (by decide) ?_
  refine lv_iadd hx hb d_law_340 ?_
  refine va_sld hx hb hX hbl hbA hS h1 d_law_341 ?_
  refine lv_aload_n hx hb d_law_342 rfl (lv_at hl 4 rfl) ?_
  refine lv_iload hx hb d_law_343 (lv_at hl 0 rfl) ?_
  refine lv_iconst (v := 2) hx hb d_law_345 (by decide) ?_
  refine lv_iadd hx hb d_law_346 ?_
  refine va_sld hx hb hX hbl hbA hS h2 d_law_347 ?_
  refine lv_aload_n hx hb d_law_348 rfl (lv_at hl 1 rfl) ?_
  obtain ⟨k, r, gFo1, q1, o1, hM, hm, ht, hq, hI1⟩ := g_foam (l := l) (D := D) (cJ := cJ) (xCc := xCc) (xGo := xGo) (xFo := xFo) (xPk := xPk) (xSk := xSk) (xAi := xAi) (xSh := xSh) (xJo := xJo) (cI := cI) (cZ := cZ) (xo := xo) (q := q) hltr hI (xs (i + 1).toNatClampNeg) (xs (i + 2).toNatClampNeg)
  refine cW (ws' := (wCc xCc cI cZ xGo xFo xPk xSk xAi xSh xJo gGo gFo1 gPk qPk gSk gAi gSh gJo ++ ([(xo, .inl (cJ, 1, .inr (.inl q1)))] : va_W)) ++ wMo xMo cI cZ o) (As := [.ref xCc, .int (xs (i + 1).toNatClampNeg), .int (xs (i + 2).toNatClampNeg), .ref xo]) (rest := []) C0 hP hD hS hl.1 [0, 1, 2, 3, 4, 5, 6, 7, 8, 9, 10, 11, 12, 13, 14, 15, 16, 17, 18, 19, 20, 21, 22, 23, 24, 25, 26, 27, 28] (hM H.size) kw_foam m_363 (C_pre rfl) rfl rfl (rp_pre rfl rfl) ⟨by decide, by decide⟩ ⟨rfl, rfl⟩ rfl (Nat.le_of_ble_eq_true rfl) d_law_349 hcs (fun H locs hP hD hS => ?_)
  refine lv_istore (lv' := [(5, .int k), (4, .int i), (3, .ref xo), (2, .ref (xMo 0)), (1, .ref xCc), (0, .ref b)]) hx hb d_law_352 hl (by decide) rfl (fun ls hl => ?_)
  refine lv_aload_n hx hb d_law_354 rfl (lv_at hl 3 rfl) ?_
  refine lv_aload_n hx hb d_law_355 rfl (lv_at hl 5 rfl) ?_
  refine lv_iload hx hb d_law_356 (lv_at hl 1 rfl) ?_
  refine lv_iconst (v := 1) hx hb d_law_358 (by decide) ?_
  refine lv_iadd hx hb d_law_359 ?_
  refine va_sld hx hb hX hbl hbA hS h1 d_law_360 ?_
  refine lv_aload_n hx hb d_law_361 rfl (lv_at hl 5 rfl) ?_
  refine lv_iload hx hb d_law_362 (lv_at hl 1 rfl) ?_
  refine lv_iconst (v := 2) hx hb d_law_364 (by decide) ?_
  refine lv_iadd hx hb d_law_365 ?_
  refine va_sld hx hb hX hbl hbA hS h2 d_law_366 ?_
  refine cVi (ws' := (wCc xCc cI cZ xGo xFo xPk xSk xAi xSh xJo gGo gFo1 gPk qPk gSk gAi gSh gJo ++ ([(xo, .inl (cJ, 1, .inr (.inl q1)))] : va_W)) ++ wMo xMo cI cZ o1) (As := [.int (xs (i + 1).toNatClampNeg), .int (xs (i + 2).toNatClampNeg)]) (rest := []) C0 hP hD hS hl.1 [29, 30, 31, 32, 33, 34, 35, 36, 37, 38, 39, 40, 41, 42, 43, 44] (c_Mo_foam_r l D cI cZ cJ xMo H.size o (xs (i + 1).toNatClampNeg) (xs (i + 2).toNatClampNeg) r o1 hm) k_Mo_foam m_822 rfl rfl (C_suf rfl) rfl rfl (rp_suf rfl rfl) ⟨by decide, by decide⟩ ⟨rfl, rfl⟩ rfl (Nat.le_of_ble_eq_true rfl) d_law_367 ⟨hcs.1, hcs.2⟩ (fun H locs hP hD hS => ?_)
  refine lv_istore (lv' := [(6, .int r), (5, .int k), (4, .int i), (3, .ref xo), (2, .ref (xMo 0)), (1, .ref xCc), (0, .ref b)]) hx hb d_law_370 hl (by decide) rfl (fun ls hl => ?_)
  refine lv_aload_n hx hb d_law_372 rfl (lv_at hl 4 rfl) ?_
  refine cVi (ws' := (wCc xCc cI cZ xGo xFo xPk xSk xAi xSh xJo gGo gFo1 gPk qPk gSk gAi gSh gJo ++ ([(xo, .inl (cJ, 1, .inr (.inl q1)))] : va_W)) ++ wMo xMo cI cZ o1) (As := []) (rest := []) C0 hP hD hS hl.1 [29, 30, 31, 32, 33, 34, 35, 36, 37, 38, 39, 40, 41, 42, 43, 44] (c_Mo_thrown_r l D cI cZ cJ xMo H.size o1 (o1 0 0) rfl) k_Mo_thrown m_798 rfl rfl (C_suf rfl) rfl rfl (rp_same (C_suf rfl)) ⟨by decide, by decide⟩ ⟨rfl, rfl⟩ rfl (Nat.le_of_ble_eq_true rfl) d_law_373 ⟨hcs.1, hcs.2⟩ (fun H locs hP hD hS => ?_)
  refine lv_iload hx hb d_law_376 (lv_at hl 1 rfl) ?_
  refine lv_icmp_eq (tgt := 383) hx hb d_law_378 (by decide) (fun _ => ?_) (fun hne => absurd ht hne)
  refine lv_iload hx hb d_law_383 (lv_at hl 1 rfl) ?_
  have fin : W p l e room_1 s m args below meth c H locs (cells + 1) (slots + 6) Q (F0 m 400 ls []) := by
    refine lv_goto (tgt := 1629) hx hb d_law_400 (by decide) ?_
    exact kk gGo gFo1 gPk qPk gSk gAi gSh gJo q1 o1 H locs ls hI1 hP hD hS (lv_sub hl [2, 3, 4, 5, 6] rfl)
  refine lv_if_ne (tgt := 400) hx hb d_law_385 (by decide) (fun _ => fin) (fun hk0 => ?_)
  refine lv_aload_n hx hb d_law_388 rfl (lv_at hl 3 rfl) ?_
  refine lv_iconst (v := 0) hx hb d_law_389 (by decide) ?_
  refine va_lald hx hb hK hP 28 2 rfl rfl (inb_in (by decide)) d_law_390 ?_
  refine lv_iload hx hb d_law_391 (lv_at hl 0 rfl) ?_
  refine lv_i2l (v := r.toInt64) hx hb d_law_393 rfl ?_
  refine W.lcmp hx hb d_law_394 ?_
  refine lv_if_eq (tgt := 400) hx hb d_law_395 (by decide) (fun _ => fin) (fun hne => absurd (by rw [hq hk0]; exact lg_self _) hne)
set_option maxRecDepth 100000 in
set_option maxHeartbeats 4000000 in
theorem lw_point {p : Program} {l : Launch} {e : Env} {s : State} {m : MethodId} {args : Array Value} {below : List Frame} {meth : Method} {c : Code} {H : Heap} {locs : List Loc} {cells slots : Nat} {Q : State → Prop} (hltr : l.stackTraces = false) {D : va_G} {cI cZ cJ : ClassId} {A : Nat → Prop} {xCc : Nat} {xGo : Nat → Nat} {xFo : Nat → Nat} {xPk : Nat → Nat} {xSk : Nat → Nat} {xAi : Nat → Nat} {xSh : Nat → Nat} {xJo : Nat → Nat} {xo : Nat} {xMo : Nat → Nat} {gGo : St} {gFo : St} {gPk : St} {qPk : Int64} {gSk : St} {gAi : St} {gSh : St} {gJo : St} {q : Nat → Int64} {o : St} {b L : Nat} {xs : Nat → Int32} {i : Int32} {ls : Array Slot} (C0 : CX p s m args c R_La code 7 D (TYS cI cZ cJ) A) (hX : va_X b L xs s s.heap) (hbl : b < s.heap.size) (hbA : ¬ A b) (h1 : vp_in (i + 1) L) (h2 : vp_in (i + 2) L) (h3 : vp_in (i + 3) L) (h4 : vp_in (i + 4) L) (hI : INV gGo gFo gPk qPk gSk gAi gSh gJo o) (hP : va_P D vwCl ((wCc xCc cI cZ xGo xFo xPk xSk xAi xSh xJo gGo gFo gPk qPk gSk gAi gSh gJo ++ ([(xo, .inl (cJ, 1, .inr (.inl q)))] : va_W)) ++ wMo xMo cI cZ o) H) (hD : va_D A ((wCc xCc cI cZ xGo xFo xPk xSk xAi xSh xJo gGo gFo gPk qPk gSk gAi gSh gJo ++ ([(xo, .inl (cJ, 1, .inr (.inl q)))] : va_W)) ++ wMo xMo cI cZ o)) (hS : va_S A s.heap H locs) (hl : lv_has ls 7 [(4, .int i), (3, .ref xo), (2, .ref (xMo 0)), (1, .ref xCc), (0, .ref b)]) (hcs : cells + 1 ≤ room_1.cells ∧ slots + 6 ≤ room_1.slots)
    (kk : ∀ (gGo1 : St) (gFo1 : St) (gPk1 : St) (qPk1 : Int64) (gSk1 : St) (gAi1 : St) (gSh1 : St) (gJo1 : St) (q1 : Nat → Int64) (o1 : St) (H1 : Heap) (locs1 : List Loc) (ls1 : Array Slot), INV gGo1 gFo1 gPk1 qPk1 gSk1 gAi1 gSh1 gJo1 o1 → va_P D vwCl ((wCc xCc cI cZ xGo xFo xPk xSk xAi xSh xJo gGo1 gFo1 gPk1 qPk1 gSk1 gAi1 gSh1 gJo1 ++ ([(xo, .inl (cJ, 1, .inr (.inl q1)))] : va_W)) ++ wMo xMo cI cZ o1) H1 → va_D A ((wCc xCc cI cZ xGo xFo xPk xSk xAi xSh xJo gGo1 gFo1 gPk1 qPk1 gSk1 gAi1 gSh1 gJo1 ++ ([(xo, .inl (cJ, 1, .inr (.inl q1)))] : va_W)) ++ wMo xMo cI cZ o1) → va_S A s.heap H1 locs1 → lv_has ls1 7 [(4, .int i), (3, .ref xo), (2, .ref (xMo 0)), (1, .ref xCc), (0, .ref b)] → W p l e room_1 s m args below meth c H1 locs1 (cells + 1) (slots + 6) Q (F0 m 1629 ls1 [])) : W p l e room_1 s m args below meth c H locs cells slots Q (F0 m 403 ls []) := by
  obtain ⟨hx, hb, -, hown, hts, hK, hE, -⟩ := id C0
  refine lv_aload_n hx hb d_law_403 rfl (lv_at hl 3 rfl) ?_
  refine lv_aload_n hx hb d_law_404 rfl (lv_at hl 4 rfl) ?_
  refine lv_iload hx hb d_law_405 (lv_at hl 0 rfl) ?_
  refine lv_iconst (v := 1) hx hb d_law_407 (by decide) ?_
  refine lv_iadd hx hb d_law_408 ?_
  refine va_sld hx hb hX hbl hbA hS h1 d_law_409 ?_
  refine lv_aload_n hx hb d_law_410 rfl (lv_at hl 4 rfl) ?_
  refine lv_iload hx hb d_law_411 (lv_at hl 0 rfl) ?_
  refine lv_iconst (v := 2) hx hb d_law_413 (by decide) ?_
  refine lv_iadd hx hb d_law_414 ?_
  refine va_sld hx hb hX hbl hbA hS h2 d_law_415 ?_
  refine lv_aload_n hx hb d_law_416 rfl (lv_at hl 4 rfl) ?_
  refine lv_iload hx hb d_law_417 (lv_at hl 0 rfl) ?_
  refine lv_iconst (v := 3) hx hb d_law_419 (by decide) ?_
  refine lv_iadd hx hb d_law_420 ?_
  refine va_sld hx hb hX hbl hbA hS h3 d_law_421 ?_
  refine lv_aload_n hx hb d_law_422 rfl (lv_at hl 4 rfl) ?_
  refine lv_iload hx hb d_law_423 (lv_at hl 0 rfl) ?_
  refine lv_iconst (v := 4) hx hb d_law_425 (by decide) ?_
  refine lv_iadd hx hb d_law_426 ?_
  refine va_sld hx hb hX hbl hbA hS h4 d_law_427 ?_
  refine lv_aload_n hx hb d_law_428 rfl (lv_at hl 1 rfl) ?_
  obtain ⟨k, r, gFo1, q1, o1, hM, hm, ht, hq, hI1⟩ := g_point (l := l) (D := D) (cJ := cJ) (xCc := xCc) (xGo := xGo) (xFo := xFo) (xPk := xPk) (xSk := xSk) (xAi := xAi) (xSh := xSh) (xJo := xJo) (cI := cI) (cZ := cZ) (xo := xo) (q := q) hltr hI (xs (i + 1).toNatClampNeg) (xs (i + 2).toNatClampNeg) (xs (i + 3).toNatClampNeg) (xs (i + 4).toNatClampNeg)
  refine cW (ws' := (wCc xCc cI cZ xGo xFo xPk xSk xAi xSh xJo gGo gFo1 gPk qPk gSk gAi gSh gJo ++ ([(xo, .inl (cJ, 1, .inr (.inl q1)))] : va_W)) ++ wMo xMo cI cZ o) (As := [.ref xCc, .int (xs (i + 1).toNatClampNeg), .int (xs (i + 2).toNatClampNeg), .int (xs (i + 3).toNatClampNeg), .int (xs (i + 4).toNatClampNeg), .ref xo]) (rest := []) C0 hP hD hS hl.1 [0, 1, 2, 3, 4, 5, 6, 7, 8, 9, 10, 11, 12, 13, 14, 15, 16, 17, 18, 19, 20, 21, 22, 23, 24, 25, 26, 27, 28] (hM H.size) kw_point m_377 (C_pre rfl) rfl rfl (rp_pre rfl rfl) ⟨by decide, by decide⟩ ⟨rfl, rfl⟩ rfl (Nat.le_of_ble_eq_true rfl) d_law_429 hcs (fun H locs hP hD hS => ?_)
  refine lv_istore (lv' := [(5, .int k), (4, .int i), (3, .ref xo), (2, .ref (xMo 0)), (1, .ref xCc), (0, .ref b)]) hx hb d_law_432 hl (by decide) rfl (fun ls hl => ?_)
  refine lv_aload_n hx hb d_law_434 rfl (lv_at hl 3 rfl) ?_
  refine lv_aload_n hx hb d_law_435 rfl (lv_at hl 5 rfl) ?_
  refine lv_iload hx hb d_law_436 (lv_at hl 1 rfl) ?_
  refine lv_iconst (v := 1) hx hb d_law_438 (by decide) ?_
  refine lv_iadd hx hb d_law_439 ?_
  refine va_sld hx hb hX hbl hbA hS h1 d_law_440 ?_
  refine lv_aload_n hx hb d_law_441 rfl (lv_at hl 5 rfl) ?_
  refine lv_iload hx hb d_law_442 (lv_at hl 1 rfl) ?_
  refine lv_iconst (v := 2) hx hb d_law_444 (by decide) ?_
  refine lv_iadd hx hb d_law_445 ?_
  refine va_sld hx hb hX hbl hbA hS h2 d_law_446 ?_
  refine lv_aload_n hx hb d_law_447 rfl (lv_at hl 5 rfl) ?_
  refine lv_iload hx hb d_law_448 (lv_at hl 1 rfl) ?_
  refine lv_iconst (v := 3) hx hb d_law_450 (by decide) ?_
  refine lv_iadd hx hb d_law_451 ?_
  refine va_sld hx hb hX hbl hbA hS h3 d_law_452 ?_
  refine lv_aload_n hx hb d_law_453 rfl (lv_at hl 5 rfl) ?_
  refine lv_iload hx hb d_law_454 (lv_at hl 1 rfl) ?_
  refine lv_iconst (v := 4) hx hb d_law_456 (by decide) ?_
  refine lv_iadd hx hb d_law_457 ?_
  refine va_sld hx hb hX hbl hbA hS h4 d_law_458 ?_
  refine cVi (ws' := (wCc xCc cI cZ xGo xFo xPk xSk xAi xSh xJo gGo gFo1 gPk qPk gSk gAi gSh gJo ++ ([(xo, .inl (cJ, 1, .inr (.inl q1)))] : va_W)) ++ wMo xMo cI cZ o1) (As := [.int (xs (i + 1).toNatClampNeg), .int (xs (i + 2).toNatClampNeg), .int (xs (i + 3).toNatClampNeg), .int (xs (i + 4).toNatClampNeg)]) (rest := []) C0 hP hD hS hl.1 [29, 30, 31, 32, 33, 34, 35, 36, 37, 38, 39, 40, 41, 42, 43, 44] (c_Mo_point_r l D cI cZ cJ xMo H.size o (xs (i + 1).toNatClampNeg) (xs (i + 2).toNatClampNeg) (xs (i + 3).toNatClampNeg) (xs (i + 4).toNatClampNeg) r o1 hm) k_Mo_point m_826 rfl rfl (C_suf rfl) rfl rfl (rp_suf rfl rfl) ⟨by decide, by decide⟩ ⟨rfl, rfl⟩ rfl (Nat.le_of_ble_eq_true rfl) d_law_459 ⟨hcs.1, hcs.2⟩ (fun H locs hP hD hS => ?_)
  refine lv_istore (lv' := [(6, .int r), (5, .int k), (4, .int i), (3, .ref xo), (2, .ref (xMo 0)), (1, .ref xCc), (0, .ref b)]) hx hb d_law_462 hl (by decide) rfl (fun ls hl => ?_)
  refine lv_aload_n hx hb d_law_464 rfl (lv_at hl 4 rfl) ?_
  refine cVi (ws' := (wCc xCc cI cZ xGo xFo xPk xSk xAi xSh xJo gGo gFo1 gPk qPk gSk gAi gSh gJo ++ ([(xo, .inl (cJ, 1, .inr (.inl q1)))] : va_W)) ++ wMo xMo cI cZ o1) (As := []) (rest := []) C0 hP hD hS hl.1 [29, 30, 31, 32, 33, 34, 35, 36, 37, 38, 39, 40, 41, 42, 43, 44] (c_Mo_thrown_r l D cI cZ cJ xMo H.size o1 (o1 0 0) rfl) k_Mo_thrown m_798 rfl rfl (C_suf rfl) rfl rfl (rp_same (C_suf rfl)) ⟨by decide, by decide⟩ ⟨rfl, rfl⟩ rfl (Nat.le_of_ble_eq_true rfl) d_law_465 ⟨hcs.1, hcs.2⟩ (fun H locs hP hD hS => ?_)
  refine lv_iload hx hb d_law_468 (lv_at hl 1 rfl) ?_
  refine lv_icmp_eq (tgt := 475) hx hb d_law_470 (by decide) (fun _ => ?_) (fun hne => absurd ht hne)
  refine lv_iload hx hb d_law_475 (lv_at hl 1 rfl) ?_
  have fin : W p l e room_1 s m args below meth c H locs (cells + 1) (slots + 6) Q (F0 m 492 ls []) := by
    refine lv_goto (tgt := 1629) hx hb d_law_492 (by decide) ?_
    exact kk gGo gFo1 gPk qPk gSk gAi gSh gJo q1 o1 H locs ls hI1 hP hD hS (lv_sub hl [2, 3, 4, 5, 6] rfl)
  refine lv_if_ne (tgt := 492) hx hb d_law_477 (by decide) (fun _ => fin) (fun hk0 => ?_)
  refine lv_aload_n hx hb d_law_480 rfl (lv_at hl 3 rfl) ?_
  refine lv_iconst (v := 0) hx hb d_law_481 (by decide) ?_
  refine va_lald hx hb hK hP 28 2 rfl rfl (inb_in (by decide)) d_law_482 ?_
  refine lv_iload hx hb d_law_483 (lv_at hl 0 rfl) ?_
  refine lv_i2l (v := r.toInt64) hx hb d_law_485 rfl ?_
  refine W.lcmp hx hb d_law_486 ?_
  refine lv_if_eq (tgt := 492) hx hb d_law_487 (by decide) (fun _ => fin) (fun hne => absurd (by rw [hq hk0]; exact lg_self _) hne)
set_option maxRecDepth 100000 in
set_option maxHeartbeats 4000000 in
theorem lw_value {p : Program} {l : Launch} {e : Env} {s : State} {m : MethodId} {args : Array Value} {below : List Frame} {meth : Method} {c : Code} {H : Heap} {locs : List Loc} {cells slots : Nat} {Q : State → Prop} (hltr : l.stackTraces = false) {D : va_G} {cI cZ cJ : ClassId} {A : Nat → Prop} {xCc : Nat} {xGo : Nat → Nat} {xFo : Nat → Nat} {xPk : Nat → Nat} {xSk : Nat → Nat} {xAi : Nat → Nat} {xSh : Nat → Nat} {xJo : Nat → Nat} {xo : Nat} {xMo : Nat → Nat} {gGo : St} {gFo : St} {gPk : St} {qPk : Int64} {gSk : St} {gAi : St} {gSh : St} {gJo : St} {q : Nat → Int64} {o : St} {b L : Nat} {xs : Nat → Int32} {i : Int32} {ls : Array Slot} (C0 : CX p s m args c R_La code 7 D (TYS cI cZ cJ) A) (hX : va_X b L xs s s.heap) (hbl : b < s.heap.size) (hbA : ¬ A b) (h1 : vp_in (i + 1) L) (h2 : vp_in (i + 2) L) (h3 : vp_in (i + 3) L) (h4 : vp_in (i + 4) L) (hI : INV gGo gFo gPk qPk gSk gAi gSh gJo o) (hP : va_P D vwCl ((wCc xCc cI cZ xGo xFo xPk xSk xAi xSh xJo gGo gFo gPk qPk gSk gAi gSh gJo ++ ([(xo, .inl (cJ, 1, .inr (.inl q)))] : va_W)) ++ wMo xMo cI cZ o) H) (hD : va_D A ((wCc xCc cI cZ xGo xFo xPk xSk xAi xSh xJo gGo gFo gPk qPk gSk gAi gSh gJo ++ ([(xo, .inl (cJ, 1, .inr (.inl q)))] : va_W)) ++ wMo xMo cI cZ o)) (hS : va_S A s.heap H locs) (hl : lv_has ls 7 [(4, .int i), (3, .ref xo), (2, .ref (xMo 0)), (1, .ref xCc), (0, .ref b)]) (hcs : cells + 1 ≤ room_1.cells ∧ slots + 6 ≤ room_1.slots)
    (kk : ∀ (gGo1 : St) (gFo1 : St) (gPk1 : St) (qPk1 : Int64) (gSk1 : St) (gAi1 : St) (gSh1 : St) (gJo1 : St) (q1 : Nat → Int64) (o1 : St) (H1 : Heap) (locs1 : List Loc) (ls1 : Array Slot), INV gGo1 gFo1 gPk1 qPk1 gSk1 gAi1 gSh1 gJo1 o1 → va_P D vwCl ((wCc xCc cI cZ xGo xFo xPk xSk xAi xSh xJo gGo1 gFo1 gPk1 qPk1 gSk1 gAi1 gSh1 gJo1 ++ ([(xo, .inl (cJ, 1, .inr (.inl q1)))] : va_W)) ++ wMo xMo cI cZ o1) H1 → va_D A ((wCc xCc cI cZ xGo xFo xPk xSk xAi xSh xJo gGo1 gFo1 gPk1 qPk1 gSk1 gAi1 gSh1 gJo1 ++ ([(xo, .inl (cJ, 1, .inr (.inl q1)))] : va_W)) ++ wMo xMo cI cZ o1) → va_S A s.heap H1 locs1 → lv_has ls1 7 [(4, .int i), (3, .ref xo), (2, .ref (xMo 0)), (1, .ref xCc), (0, .ref b)] → W p l e room_1 s m args below meth c H1 locs1 (cells + 1) (slots + 6) Q (F0 m 1629 ls1 [])) : W p l e room_1 s m args below meth c H locs cells slots Q (F0 m 495 ls []) := by
  obtain ⟨hx, hb, -, hown, hts, hK, hE, -⟩ := id C0
  refine lv_aload_n hx hb d_law_495 rfl (lv_at hl 3 rfl) ?_
  refine lv_aload_n hx hb d_law_496 rfl (lv_at hl 4 rfl) ?_
  refine lv_iload hx hb d_law_497 (lv_at hl 0 rfl) ?_
  refine lv_iconst (v := 1) hx hb d_law_499 (by decide) ?_
  refine lv_iadd hx hb d_law_500 ?_
  refine va_sld hx hb hX hbl hbA hS h1 d_law_501 ?_
  refine lv_aload_n hx hb d_law_502 rfl (lv_at hl 4 rfl) ?_
  refine lv_iload hx hb d_law_503 (lv_at hl 0 rfl) ?_
  refine lv_iconst (v := 2) hx hb d_law_505 (by decide) ?_
  refine lv_iadd hx hb d_law_506 ?_
  refine va_sld hx hb hX hbl hbA hS h2 d_law_507 ?_
  refine lv_aload_n hx hb d_law_508 rfl (lv_at hl 4 rfl) ?_
  refine lv_iload hx hb d_law_509 (lv_at hl 0 rfl) ?_
  refine lv_iconst (v := 3) hx hb d_law_511 (by decide) ?_
  refine lv_iadd hx hb d_law_512 ?_
  refine va_sld hx hb hX hbl hbA hS h3 d_law_513 ?_
  refine lv_aload_n hx hb d_law_514 rfl (lv_at hl 1 rfl) ?_
  obtain ⟨k, r, q1, o1, hM, hm, ht, hq, hI1⟩ := g_value (l := l) (D := D) (cJ := cJ) (xCc := xCc) (xGo := xGo) (xFo := xFo) (xPk := xPk) (xSk := xSk) (xAi := xAi) (xSh := xSh) (xJo := xJo) (cI := cI) (cZ := cZ) (xo := xo) (q := q) hltr hI (xs (i + 1).toNatClampNeg) (xs (i + 2).toNatClampNeg) (xs (i + 3).toNatClampNeg)
  refine cW (ws' := (wCc xCc cI cZ xGo xFo xPk xSk xAi xSh xJo gGo gFo gPk qPk gSk gAi gSh gJo ++ ([(xo, .inl (cJ, 1, .inr (.inl q1)))] : va_W)) ++ wMo xMo cI cZ o) (As := [.ref xCc, .int (xs (i + 1).toNatClampNeg), .int (xs (i + 2).toNatClampNeg), .int (xs (i + 3).toNatClampNeg), .ref xo]) (rest := []) C0 hP hD hS hl.1 [0, 1, 2, 3, 4, 5, 6, 7, 8, 9, 10, 11, 12, 13, 14, 15, 16, 17, 18, 19, 20, 21, 22, 23, 24, 25, 26, 27, 28] (hM H.size) kw_value m_392 (C_pre rfl) rfl rfl (rp_pre rfl rfl) ⟨by decide, by decide⟩ ⟨rfl, rfl⟩ rfl (Nat.le_of_ble_eq_true rfl) d_law_515 hcs (fun H locs hP hD hS => ?_)
  refine lv_istore (lv' := [(5, .int k), (4, .int i), (3, .ref xo), (2, .ref (xMo 0)), (1, .ref xCc), (0, .ref b)]) hx hb d_law_518 hl (by decide) rfl (fun ls hl => ?_)
  refine lv_aload_n hx hb d_law_520 rfl (lv_at hl 3 rfl) ?_
  refine lv_aload_n hx hb d_law_521 rfl (lv_at hl 5 rfl) ?_
  refine lv_iload hx hb d_law_522 (lv_at hl 1 rfl) ?_
  refine lv_iconst (v := 1) hx hb d_law_524 (by decide) ?_
  refine lv_iadd hx hb d_law_525 ?_
  refine va_sld hx hb hX hbl hbA hS h1 d_law_526 ?_
  refine lv_aload_n hx hb d_law_527 rfl (lv_at hl 5 rfl) ?_
  refine lv_iload hx hb d_law_528 (lv_at hl 1 rfl) ?_
  refine lv_iconst (v := 2) hx hb d_law_530 (by decide) ?_
  refine lv_iadd hx hb d_law_531 ?_
  refine va_sld hx hb hX hbl hbA hS h2 d_law_532 ?_
  refine lv_aload_n hx hb d_law_533 rfl (lv_at hl 5 rfl) ?_
  refine lv_iload hx hb d_law_534 (lv_at hl 1 rfl) ?_
  refine lv_iconst (v := 3) hx hb d_law_536 (by decide) ?_
  refine lv_iadd hx hb d_law_537 ?_
  refine va_sld hx hb hX hbl hbA hS h3 d_law_538 ?_
  refine cVi (ws' := (wCc xCc cI cZ xGo xFo xPk xSk xAi xSh xJo gGo gFo gPk qPk gSk gAi gSh gJo ++ ([(xo, .inl (cJ, 1, .inr (.inl q1)))] : va_W)) ++ wMo xMo cI cZ o1) (As := [.int (xs (i + 1).toNatClampNeg), .int (xs (i + 2).toNatClampNeg), .int (xs (i + 3).toNatClampNeg)]) (rest := []) C0 hP hD hS hl.1 [29, 30, 31, 32, 33, 34, 35, 36, 37, 38, 39, 40, 41, 42, 43, 44] (c_Mo_value_r l D cI cZ cJ xMo H.size o (xs (i + 1).toNatClampNeg) (xs (i + 2).toNatClampNeg) (xs (i + 3).toNatClampNeg) r o1 hm) k_Mo_value m_834 rfl rfl (C_suf rfl) rfl rfl (rp_suf rfl rfl) ⟨by decide, by decide⟩ ⟨rfl, rfl⟩ rfl (Nat.le_of_ble_eq_true rfl) d_law_539 ⟨hcs.1, hcs.2⟩ (fun H locs hP hD hS => ?_)
  refine lv_istore (lv' := [(6, .int r), (5, .int k), (4, .int i), (3, .ref xo), (2, .ref (xMo 0)), (1, .ref xCc), (0, .ref b)]) hx hb d_law_542 hl (by decide) rfl (fun ls hl => ?_)
  refine lv_aload_n hx hb d_law_544 rfl (lv_at hl 4 rfl) ?_
  refine cVi (ws' := (wCc xCc cI cZ xGo xFo xPk xSk xAi xSh xJo gGo gFo gPk qPk gSk gAi gSh gJo ++ ([(xo, .inl (cJ, 1, .inr (.inl q1)))] : va_W)) ++ wMo xMo cI cZ o1) (As := []) (rest := []) C0 hP hD hS hl.1 [29, 30, 31, 32, 33, 34, 35, 36, 37, 38, 39, 40, 41, 42, 43, 44] (c_Mo_thrown_r l D cI cZ cJ xMo H.size o1 (o1 0 0) rfl) k_Mo_thrown m_798 rfl rfl (C_suf rfl) rfl rfl (rp_same (C_suf rfl)) ⟨by decide, by decide⟩ ⟨rfl, rfl⟩ rfl (Nat.le_of_ble_eq_true rfl) d_law_545 ⟨hcs.1, hcs.2⟩ (fun H locs hP hD hS => ?_)
  refine lv_iload hx hb d_law_548 (lv_at hl 1 rfl) ?_
  refine lv_icmp_eq (tgt := 555) hx hb d_law_550 (by decide) (fun _ => ?_) (fun hne => absurd ht hne)
  refine lv_iload hx hb d_law_555 (lv_at hl 1 rfl) ?_
  have fin : W p l e room_1 s m args below meth c H locs (cells + 1) (slots + 6) Q (F0 m 572 ls []) := by
    refine lv_goto (tgt := 1629) hx hb d_law_572 (by decide) ?_
    exact kk gGo gFo gPk qPk gSk gAi gSh gJo q1 o1 H locs ls hI1 hP hD hS (lv_sub hl [2, 3, 4, 5, 6] rfl)
  refine lv_if_ne (tgt := 572) hx hb d_law_557 (by decide) (fun _ => fin) (fun hk0 => ?_)
  refine lv_aload_n hx hb d_law_560 rfl (lv_at hl 3 rfl) ?_
  refine lv_iconst (v := 0) hx hb d_law_561 (by decide) ?_
  refine va_lald hx hb hK hP 28 2 rfl rfl (inb_in (by decide)) d_law_562 ?_
  refine lv_iload hx hb d_law_563 (lv_at hl 0 rfl) ?_
  refine lv_i2l (v := r.toInt64) hx hb d_law_565 rfl ?_
  refine W.lcmp hx hb d_law_566 ?_
  refine lv_if_eq (tgt := 572) hx hb d_law_567 (by decide) (fun _ => fin) (fun hne => absurd (by rw [hq hk0]; exact lg_self _) hne)
set_option maxRecDepth 100000 in
set_option maxHeartbeats 4000000 in
theorem lw_thickness {p : Program} {l : Launch} {e : Env} {s : State} {m : MethodId} {args : Array Value} {below : List Frame} {meth : Method} {c : Code} {H : Heap} {locs : List Loc} {cells slots : Nat} {Q : State → Prop} (hltr : l.stackTraces = false) {D : va_G} {cI cZ cJ : ClassId} {A : Nat → Prop} {xCc : Nat} {xGo : Nat → Nat} {xFo : Nat → Nat} {xPk : Nat → Nat} {xSk : Nat → Nat} {xAi : Nat → Nat} {xSh : Nat → Nat} {xJo : Nat → Nat} {xo : Nat} {xMo : Nat → Nat} {gGo : St} {gFo : St} {gPk : St} {qPk : Int64} {gSk : St} {gAi : St} {gSh : St} {gJo : St} {q : Nat → Int64} {o : St} {b L : Nat} {xs : Nat → Int32} {i : Int32} {ls : Array Slot} (C0 : CX p s m args c R_La code 7 D (TYS cI cZ cJ) A) (hX : va_X b L xs s s.heap) (hbl : b < s.heap.size) (hbA : ¬ A b) (h1 : vp_in (i + 1) L) (h2 : vp_in (i + 2) L) (h3 : vp_in (i + 3) L) (h4 : vp_in (i + 4) L) (hI : INV gGo gFo gPk qPk gSk gAi gSh gJo o) (hP : va_P D vwCl ((wCc xCc cI cZ xGo xFo xPk xSk xAi xSh xJo gGo gFo gPk qPk gSk gAi gSh gJo ++ ([(xo, .inl (cJ, 1, .inr (.inl q)))] : va_W)) ++ wMo xMo cI cZ o) H) (hD : va_D A ((wCc xCc cI cZ xGo xFo xPk xSk xAi xSh xJo gGo gFo gPk qPk gSk gAi gSh gJo ++ ([(xo, .inl (cJ, 1, .inr (.inl q)))] : va_W)) ++ wMo xMo cI cZ o)) (hS : va_S A s.heap H locs) (hl : lv_has ls 7 [(4, .int i), (3, .ref xo), (2, .ref (xMo 0)), (1, .ref xCc), (0, .ref b)]) (hcs : cells + 1 ≤ room_1.cells ∧ slots + 6 ≤ room_1.slots)
    (kk : ∀ (gGo1 : St) (gFo1 : St) (gPk1 : St) (qPk1 : Int64) (gSk1 : St) (gAi1 : St) (gSh1 : St) (gJo1 : St) (q1 : Nat → Int64) (o1 : St) (H1 : Heap) (locs1 : List Loc) (ls1 : Array Slot), INV gGo1 gFo1 gPk1 qPk1 gSk1 gAi1 gSh1 gJo1 o1 → va_P D vwCl ((wCc xCc cI cZ xGo xFo xPk xSk xAi xSh xJo gGo1 gFo1 gPk1 qPk1 gSk1 gAi1 gSh1 gJo1 ++ ([(xo, .inl (cJ, 1, .inr (.inl q1)))] : va_W)) ++ wMo xMo cI cZ o1) H1 → va_D A ((wCc xCc cI cZ xGo xFo xPk xSk xAi xSh xJo gGo1 gFo1 gPk1 qPk1 gSk1 gAi1 gSh1 gJo1 ++ ([(xo, .inl (cJ, 1, .inr (.inl q1)))] : va_W)) ++ wMo xMo cI cZ o1) → va_S A s.heap H1 locs1 → lv_has ls1 7 [(4, .int i), (3, .ref xo), (2, .ref (xMo 0)), (1, .ref xCc), (0, .ref b)] → W p l e room_1 s m args below meth c H1 locs1 (cells + 1) (slots + 6) Q (F0 m 1629 ls1 [])) : W p l e room_1 s m args below meth c H locs cells slots Q (F0 m 575 ls []) := by
  obtain ⟨hx, hb, -, hown, hts, hK, hE, -⟩ := id C0
  refine lv_aload_n hx hb d_law_575 rfl (lv_at hl 3 rfl) ?_
  refine lv_aload_n hx hb d_law_576 rfl (lv_at hl 4 rfl) ?_
  refine lv_iload hx hb d_law_577 (lv_at hl 0 rfl) ?_
  refine lv_iconst (v := 1) hx hb d_law_579 (by decide) ?_
  refine lv_iadd hx hb d_law_580 ?_
  refine va_sld hx hb hX hbl hbA hS h1 d_law_581 ?_
  refine lv_aload_n hx hb d_law_582 rfl (lv_at hl 4 rfl) ?_
  refine lv_iload hx hb d_law_583 (lv_at hl 0 rfl) ?_
  refine lv_iconst (v := 2) hx hb d_law_585 (by decide) ?_
  refine lv_iadd hx hb d_law_586 ?_
  refine va_sld hx hb hX hbl hbA hS h2 d_law_587 ?_
  refine lv_aload_n hx hb d_law_588 rfl (lv_at hl 4 rfl) ?_
  refine lv_iload hx hb d_law_589 (lv_at hl 0 rfl) ?_
  refine lv_iconst (v := 3) hx hb d_law_591 (by decide) ?_
  refine lv_iadd hx hb d_law_592 ?_
  refine va_sld hx hb hX hbl hbA hS h3 d_law_593 ?_
  refine lv_aload_n hx hb d_law_594 rfl (lv_at hl 1 rfl) ?_
  obtain ⟨k, r, q1, o1, hM, hm, ht, hq, hI1⟩ := g_thickness (l := l) (D := D) (cJ := cJ) (xCc := xCc) (xGo := xGo) (xFo := xFo) (xPk := xPk) (xSk := xSk) (xAi := xAi) (xSh := xSh) (xJo := xJo) (cI := cI) (cZ := cZ) (xo := xo) (q := q) hltr hI (xs (i + 1).toNatClampNeg) (xs (i + 2).toNatClampNeg) (xs (i + 3).toNatClampNeg)
  refine cW (ws' := (wCc xCc cI cZ xGo xFo xPk xSk xAi xSh xJo gGo gFo gPk qPk gSk gAi gSh gJo ++ ([(xo, .inl (cJ, 1, .inr (.inl q1)))] : va_W)) ++ wMo xMo cI cZ o) (As := [.ref xCc, .int (xs (i + 1).toNatClampNeg), .int (xs (i + 2).toNatClampNeg), .int (xs (i + 3).toNatClampNeg), .ref xo]) (rest := []) C0 hP hD hS hl.1 [0, 1, 2, 3, 4, 5, 6, 7, 8, 9, 10, 11, 12, 13, 14, 15, 16, 17, 18, 19, 20, 21, 22, 23, 24, 25, 26, 27, 28] (hM H.size) kw_thickness m_410 (C_pre rfl) rfl rfl (rp_pre rfl rfl) ⟨by decide, by decide⟩ ⟨rfl, rfl⟩ rfl (Nat.le_of_ble_eq_true rfl) d_law_595 hcs (fun H locs hP hD hS => ?_)
  refine lv_istore (lv' := [(5, .int k), (4, .int i), (3, .ref xo), (2, .ref (xMo 0)), (1, .ref xCc), (0, .ref b)]) hx hb d_law_598 hl (by decide) rfl (fun ls hl => ?_)
  refine lv_aload_n hx hb d_law_600 rfl (lv_at hl 3 rfl) ?_
  refine lv_aload_n hx hb d_law_601 rfl (lv_at hl 5 rfl) ?_
  refine lv_iload hx hb d_law_602 (lv_at hl 1 rfl) ?_
  refine lv_iconst (v := 1) hx hb d_law_604 (by decide) ?_
  refine lv_iadd hx hb d_law_605 ?_
  refine va_sld hx hb hX hbl hbA hS h1 d_law_606 ?_
  refine lv_aload_n hx hb d_law_607 rfl (lv_at hl 5 rfl) ?_
  refine lv_iload hx hb d_law_608 (lv_at hl 1 rfl) ?_
  refine lv_iconst (v := 2) hx hb d_law_610 (by decide) ?_
  refine lv_iadd hx hb d_law_611 ?_
  refine va_sld hx hb hX hbl hbA hS h2 d_law_612 ?_
  refine lv_aload_n hx hb d_law_613 rfl (lv_at hl 5 rfl) ?_
  refine lv_iload hx hb d_law_614 (lv_at hl 1 rfl) ?_
  refine lv_iconst (v := 3) hx hb d_law_616 (by decide) ?_
  refine lv_iadd hx hb d_law_617 ?_
  refine va_sld hx hb hX hbl hbA hS h3 d_law_618 ?_
  refine cVi (ws' := (wCc xCc cI cZ xGo xFo xPk xSk xAi xSh xJo gGo gFo gPk qPk gSk gAi gSh gJo ++ ([(xo, .inl (cJ, 1, .inr (.inl q1)))] : va_W)) ++ wMo xMo cI cZ o1) (As := [.int (xs (i + 1).toNatClampNeg), .int (xs (i + 2).toNatClampNeg), .int (xs (i + 3).toNatClampNeg)]) (rest := []) C0 hP hD hS hl.1 [29, 30, 31, 32, 33, 34, 35, 36, 37, 38, 39, 40, 41, 42, 43, 44] (c_Mo_thickness_r l D cI cZ cJ xMo H.size o (xs (i + 1).toNatClampNeg) (xs (i + 2).toNatClampNeg) (xs (i + 3).toNatClampNeg) r o1 hm) k_Mo_thickness m_845 rfl rfl (C_suf rfl) rfl rfl (rp_suf rfl rfl) ⟨by decide, by decide⟩ ⟨rfl, rfl⟩ rfl (Nat.le_of_ble_eq_true rfl) d_law_619 ⟨hcs.1, hcs.2⟩ (fun H locs hP hD hS => ?_)
  refine lv_istore (lv' := [(6, .int r), (5, .int k), (4, .int i), (3, .ref xo), (2, .ref (xMo 0)), (1, .ref xCc), (0, .ref b)]) hx hb d_law_622 hl (by decide) rfl (fun ls hl => ?_)
  refine lv_aload_n hx hb d_law_624 rfl (lv_at hl 4 rfl) ?_
  refine cVi (ws' := (wCc xCc cI cZ xGo xFo xPk xSk xAi xSh xJo gGo gFo gPk qPk gSk gAi gSh gJo ++ ([(xo, .inl (cJ, 1, .inr (.inl q1)))] : va_W)) ++ wMo xMo cI cZ o1) (As := []) (rest := []) C0 hP hD hS hl.1 [29, 30, 31, 32, 33, 34, 35, 36, 37, 38, 39, 40, 41, 42, 43, 44] (c_Mo_thrown_r l D cI cZ cJ xMo H.size o1 (o1 0 0) rfl) k_Mo_thrown m_798 rfl rfl (C_suf rfl) rfl rfl (rp_same (C_suf rfl)) ⟨by decide, by decide⟩ ⟨rfl, rfl⟩ rfl (Nat.le_of_ble_eq_true rfl) d_law_625 ⟨hcs.1, hcs.2⟩ (fun H locs hP hD hS => ?_)
  refine lv_iload hx hb d_law_628 (lv_at hl 1 rfl) ?_
  refine lv_icmp_eq (tgt := 635) hx hb d_law_630 (by decide) (fun _ => ?_) (fun hne => absurd ht hne)
  refine lv_iload hx hb d_law_635 (lv_at hl 1 rfl) ?_
  have fin : W p l e room_1 s m args below meth c H locs (cells + 1) (slots + 6) Q (F0 m 652 ls []) := by
    refine lv_goto (tgt := 1629) hx hb d_law_652 (by decide) ?_
    exact kk gGo gFo gPk qPk gSk gAi gSh gJo q1 o1 H locs ls hI1 hP hD hS (lv_sub hl [2, 3, 4, 5, 6] rfl)
  refine lv_if_ne (tgt := 652) hx hb d_law_637 (by decide) (fun _ => fin) (fun hk0 => ?_)
  refine lv_aload_n hx hb d_law_640 rfl (lv_at hl 3 rfl) ?_
  refine lv_iconst (v := 0) hx hb d_law_641 (by decide) ?_
  refine va_lald hx hb hK hP 28 2 rfl rfl (inb_in (by decide)) d_law_642 ?_
  refine lv_iload hx hb d_law_643 (lv_at hl 0 rfl) ?_
  refine lv_i2l (v := r.toInt64) hx hb d_law_645 rfl ?_
  refine W.lcmp hx hb d_law_646 ?_
  refine lv_if_eq (tgt := 652) hx hb d_law_647 (by decide) (fun _ => fin) (fun hne => absurd (by rw [hq hk0]; exact lg_self _) hne)
set_option maxRecDepth 100000 in
set_option maxHeartbeats 4000000 in
theorem lw_pack {p : Program} {l : Launch} {e : Env} {s : State} {m : MethodId} {args : Array Value} {below : List Frame} {meth : Method} {c : Code} {H : Heap} {locs : List Loc} {cells slots : Nat} {Q : State → Prop} (hltr : l.stackTraces = false) {D : va_G} {cI cZ cJ : ClassId} {A : Nat → Prop} {xCc : Nat} {xGo : Nat → Nat} {xFo : Nat → Nat} {xPk : Nat → Nat} {xSk : Nat → Nat} {xAi : Nat → Nat} {xSh : Nat → Nat} {xJo : Nat → Nat} {xo : Nat} {xMo : Nat → Nat} {gGo : St} {gFo : St} {gPk : St} {qPk : Int64} {gSk : St} {gAi : St} {gSh : St} {gJo : St} {q : Nat → Int64} {o : St} {b L : Nat} {xs : Nat → Int32} {i : Int32} {ls : Array Slot} (C0 : CX p s m args c R_La code 7 D (TYS cI cZ cJ) A) (hX : va_X b L xs s s.heap) (hbl : b < s.heap.size) (hbA : ¬ A b) (h1 : vp_in (i + 1) L) (h2 : vp_in (i + 2) L) (h3 : vp_in (i + 3) L) (h4 : vp_in (i + 4) L) (hI : INV gGo gFo gPk qPk gSk gAi gSh gJo o) (hP : va_P D vwCl ((wCc xCc cI cZ xGo xFo xPk xSk xAi xSh xJo gGo gFo gPk qPk gSk gAi gSh gJo ++ ([(xo, .inl (cJ, 1, .inr (.inl q)))] : va_W)) ++ wMo xMo cI cZ o) H) (hD : va_D A ((wCc xCc cI cZ xGo xFo xPk xSk xAi xSh xJo gGo gFo gPk qPk gSk gAi gSh gJo ++ ([(xo, .inl (cJ, 1, .inr (.inl q)))] : va_W)) ++ wMo xMo cI cZ o)) (hS : va_S A s.heap H locs) (hl : lv_has ls 7 [(4, .int i), (3, .ref xo), (2, .ref (xMo 0)), (1, .ref xCc), (0, .ref b)]) (hcs : cells + 1 ≤ room_1.cells ∧ slots + 6 ≤ room_1.slots)
    (kk : ∀ (gGo1 : St) (gFo1 : St) (gPk1 : St) (qPk1 : Int64) (gSk1 : St) (gAi1 : St) (gSh1 : St) (gJo1 : St) (q1 : Nat → Int64) (o1 : St) (H1 : Heap) (locs1 : List Loc) (ls1 : Array Slot), INV gGo1 gFo1 gPk1 qPk1 gSk1 gAi1 gSh1 gJo1 o1 → va_P D vwCl ((wCc xCc cI cZ xGo xFo xPk xSk xAi xSh xJo gGo1 gFo1 gPk1 qPk1 gSk1 gAi1 gSh1 gJo1 ++ ([(xo, .inl (cJ, 1, .inr (.inl q1)))] : va_W)) ++ wMo xMo cI cZ o1) H1 → va_D A ((wCc xCc cI cZ xGo xFo xPk xSk xAi xSh xJo gGo1 gFo1 gPk1 qPk1 gSk1 gAi1 gSh1 gJo1 ++ ([(xo, .inl (cJ, 1, .inr (.inl q1)))] : va_W)) ++ wMo xMo cI cZ o1) → va_S A s.heap H1 locs1 → lv_has ls1 7 [(4, .int i), (3, .ref xo), (2, .ref (xMo 0)), (1, .ref xCc), (0, .ref b)] → W p l e room_1 s m args below meth c H1 locs1 (cells + 1) (slots + 6) Q (F0 m 1629 ls1 [])) : W p l e room_1 s m args below meth c H locs cells slots Q (F0 m 655 ls []) := by
  obtain ⟨hx, hb, -, hown, hts, hK, hE, -⟩ := id C0
  refine lv_aload_n hx hb d_law_655 rfl (lv_at hl 3 rfl) ?_
  refine lv_aload_n hx hb d_law_656 rfl (lv_at hl 4 rfl) ?_
  refine lv_iload hx hb d_law_657 (lv_at hl 0 rfl) ?_
  refine lv_iconst (v := 1) hx hb d_law_659 (by decide) ?_
  refine lv_iadd hx hb d_law_660 ?_
  refine va_sld hx hb hX hbl hbA hS h1 d_law_661 ?_
  refine lv_aload_n hx hb d_law_662 rfl (lv_at hl 4 rfl) ?_
  refine lv_iload hx hb d_law_663 (lv_at hl 0 rfl) ?_
  refine lv_iconst (v := 2) hx hb d_law_665 (by decide) ?_
  refine lv_iadd hx hb d_law_666 ?_
  refine va_sld hx hb hX hbl hbA hS h2 d_law_667 ?_
  refine lv_aload_n hx hb d_law_668 rfl (lv_at hl 1 rfl) ?_
  obtain ⟨k, r, gPk1, qPk1, q1, o1, hM, hm, ht, hq, hI1⟩ := g_pack (l := l) (D := D) (cJ := cJ) (xCc := xCc) (xGo := xGo) (xFo := xFo) (xPk := xPk) (xSk := xSk) (xAi := xAi) (xSh := xSh) (xJo := xJo) (cI := cI) (cZ := cZ) (xo := xo) (q := q) hltr hI (xs (i + 1).toNatClampNeg) (xs (i + 2).toNatClampNeg)
  refine cW (ws' := (wCc xCc cI cZ xGo xFo xPk xSk xAi xSh xJo gGo gFo gPk1 qPk1 gSk gAi gSh gJo ++ ([(xo, .inl (cJ, 1, .inr (.inl q1)))] : va_W)) ++ wMo xMo cI cZ o) (As := [.ref xCc, .int (xs (i + 1).toNatClampNeg), .int (xs (i + 2).toNatClampNeg), .ref xo]) (rest := []) C0 hP hD hS hl.1 [0, 1, 2, 3, 4, 5, 6, 7, 8, 9, 10, 11, 12, 13, 14, 15, 16, 17, 18, 19, 20, 21, 22, 23, 24, 25, 26, 27, 28] (hM H.size) kw_pack m_422 (C_pre rfl) rfl rfl (rp_pre rfl rfl) ⟨by decide, by decide⟩ ⟨rfl, rfl⟩ rfl (Nat.le_of_ble_eq_true rfl) d_law_669 hcs (fun H locs hP hD hS => ?_)
  refine lv_istore (lv' := [(5, .int k), (4, .int i), (3, .ref xo), (2, .ref (xMo 0)), (1, .ref xCc), (0, .ref b)]) hx hb d_law_672 hl (by decide) rfl (fun ls hl => ?_)
  refine lv_aload_n hx hb d_law_674 rfl (lv_at hl 3 rfl) ?_
  refine lv_aload_n hx hb d_law_675 rfl (lv_at hl 5 rfl) ?_
  refine lv_iload hx hb d_law_676 (lv_at hl 1 rfl) ?_
  refine lv_iconst (v := 1) hx hb d_law_678 (by decide) ?_
  refine lv_iadd hx hb d_law_679 ?_
  refine va_sld hx hb hX hbl hbA hS h1 d_law_680 ?_
  refine lv_aload_n hx hb d_law_681 rfl (lv_at hl 5 rfl) ?_
  refine lv_iload hx hb d_law_682 (lv_at hl 1 rfl) ?_
  refine lv_iconst (v := 2) hx hb d_law_684 (by decide) ?_
  refine lv_iadd hx hb d_law_685 ?_
  refine va_sld hx hb hX hbl hbA hS h2 d_law_686 ?_
  refine cVi (ws' := (wCc xCc cI cZ xGo xFo xPk xSk xAi xSh xJo gGo gFo gPk1 qPk1 gSk gAi gSh gJo ++ ([(xo, .inl (cJ, 1, .inr (.inl q1)))] : va_W)) ++ wMo xMo cI cZ o1) (As := [.int (xs (i + 1).toNatClampNeg), .int (xs (i + 2).toNatClampNeg)]) (rest := []) C0 hP hD hS hl.1 [29, 30, 31, 32, 33, 34, 35, 36, 37, 38, 39, 40, 41, 42, 43, 44] (c_Mo_pack_r l D cI cZ cJ xMo H.size o (xs (i + 1).toNatClampNeg) (xs (i + 2).toNatClampNeg) r o1 hm) k_Mo_pack m_849 rfl rfl (C_suf rfl) rfl rfl (rp_suf rfl rfl) ⟨by decide, by decide⟩ ⟨rfl, rfl⟩ rfl (Nat.le_of_ble_eq_true rfl) d_law_687 ⟨hcs.1, hcs.2⟩ (fun H locs hP hD hS => ?_)
  refine lv_istore (lv' := [(6, .int r), (5, .int k), (4, .int i), (3, .ref xo), (2, .ref (xMo 0)), (1, .ref xCc), (0, .ref b)]) hx hb d_law_690 hl (by decide) rfl (fun ls hl => ?_)
  refine lv_aload_n hx hb d_law_692 rfl (lv_at hl 4 rfl) ?_
  refine cVi (ws' := (wCc xCc cI cZ xGo xFo xPk xSk xAi xSh xJo gGo gFo gPk1 qPk1 gSk gAi gSh gJo ++ ([(xo, .inl (cJ, 1, .inr (.inl q1)))] : va_W)) ++ wMo xMo cI cZ o1) (As := []) (rest := []) C0 hP hD hS hl.1 [29, 30, 31, 32, 33, 34, 35, 36, 37, 38, 39, 40, 41, 42, 43, 44] (c_Mo_thrown_r l D cI cZ cJ xMo H.size o1 (o1 0 0) rfl) k_Mo_thrown m_798 rfl rfl (C_suf rfl) rfl rfl (rp_same (C_suf rfl)) ⟨by decide, by decide⟩ ⟨rfl, rfl⟩ rfl (Nat.le_of_ble_eq_true rfl) d_law_693 ⟨hcs.1, hcs.2⟩ (fun H locs hP hD hS => ?_)
  refine lv_iload hx hb d_law_696 (lv_at hl 1 rfl) ?_
  refine lv_icmp_eq (tgt := 703) hx hb d_law_698 (by decide) (fun _ => ?_) (fun hne => absurd ht hne)
  refine lv_iload hx hb d_law_703 (lv_at hl 1 rfl) ?_
  have fin : W p l e room_1 s m args below meth c H locs (cells + 1) (slots + 6) Q (F0 m 720 ls []) := by
    refine lv_goto (tgt := 1629) hx hb d_law_720 (by decide) ?_
    exact kk gGo gFo gPk1 qPk1 gSk gAi gSh gJo q1 o1 H locs ls hI1 hP hD hS (lv_sub hl [2, 3, 4, 5, 6] rfl)
  refine lv_if_ne (tgt := 720) hx hb d_law_705 (by decide) (fun _ => fin) (fun hk0 => ?_)
  refine lv_aload_n hx hb d_law_708 rfl (lv_at hl 3 rfl) ?_
  refine lv_iconst (v := 0) hx hb d_law_709 (by decide) ?_
  refine va_lald hx hb hK hP 28 2 rfl rfl (inb_in (by decide)) d_law_710 ?_
  refine lv_iload hx hb d_law_711 (lv_at hl 0 rfl) ?_
  refine lv_i2l (v := r.toInt64) hx hb d_law_713 rfl ?_
  refine W.lcmp hx hb d_law_714 ?_
  refine lv_if_eq (tgt := 720) hx hb d_law_715 (by decide) (fun _ => fin) (fun hne => absurd (by rw [hq hk0]; exact lg_self _) hne)
set_option maxRecDepth 100000 in
set_option maxHeartbeats 4000000 in
theorem lw_size {p : Program} {l : Launch} {e : Env} {s : State} {m : MethodId} {args : Array Value} {below : List Frame} {meth : Method} {c : Code} {H : Heap} {locs : List Loc} {cells slots : Nat} {Q : State → Prop} (hltr : l.stackTraces = false) {D : va_G} {cI cZ cJ : ClassId} {A : Nat → Prop} {xCc : Nat} {xGo : Nat → Nat} {xFo : Nat → Nat} {xPk : Nat → Nat} {xSk : Nat → Nat} {xAi : Nat → Nat} {xSh : Nat → Nat} {xJo : Nat → Nat} {xo : Nat} {xMo : Nat → Nat} {gGo : St} {gFo : St} {gPk : St} {qPk : Int64} {gSk : St} {gAi : St} {gSh : St} {gJo : St} {q : Nat → Int64} {o : St} {b L : Nat} {xs : Nat → Int32} {i : Int32} {ls : Array Slot} (C0 : CX p s m args c R_La code 7 D (TYS cI cZ cJ) A) (hX : va_X b L xs s s.heap) (hbl : b < s.heap.size) (hbA : ¬ A b) (h1 : vp_in (i + 1) L) (h2 : vp_in (i + 2) L) (h3 : vp_in (i + 3) L) (h4 : vp_in (i + 4) L) (hI : INV gGo gFo gPk qPk gSk gAi gSh gJo o) (hP : va_P D vwCl ((wCc xCc cI cZ xGo xFo xPk xSk xAi xSh xJo gGo gFo gPk qPk gSk gAi gSh gJo ++ ([(xo, .inl (cJ, 1, .inr (.inl q)))] : va_W)) ++ wMo xMo cI cZ o) H) (hD : va_D A ((wCc xCc cI cZ xGo xFo xPk xSk xAi xSh xJo gGo gFo gPk qPk gSk gAi gSh gJo ++ ([(xo, .inl (cJ, 1, .inr (.inl q)))] : va_W)) ++ wMo xMo cI cZ o)) (hS : va_S A s.heap H locs) (hl : lv_has ls 7 [(4, .int i), (3, .ref xo), (2, .ref (xMo 0)), (1, .ref xCc), (0, .ref b)]) (hcs : cells + 1 ≤ room_1.cells ∧ slots + 6 ≤ room_1.slots)
    (kk : ∀ (gGo1 : St) (gFo1 : St) (gPk1 : St) (qPk1 : Int64) (gSk1 : St) (gAi1 : St) (gSh1 : St) (gJo1 : St) (q1 : Nat → Int64) (o1 : St) (H1 : Heap) (locs1 : List Loc) (ls1 : Array Slot), INV gGo1 gFo1 gPk1 qPk1 gSk1 gAi1 gSh1 gJo1 o1 → va_P D vwCl ((wCc xCc cI cZ xGo xFo xPk xSk xAi xSh xJo gGo1 gFo1 gPk1 qPk1 gSk1 gAi1 gSh1 gJo1 ++ ([(xo, .inl (cJ, 1, .inr (.inl q1)))] : va_W)) ++ wMo xMo cI cZ o1) H1 → va_D A ((wCc xCc cI cZ xGo xFo xPk xSk xAi xSh xJo gGo1 gFo1 gPk1 qPk1 gSk1 gAi1 gSh1 gJo1 ++ ([(xo, .inl (cJ, 1, .inr (.inl q1)))] : va_W)) ++ wMo xMo cI cZ o1) → va_S A s.heap H1 locs1 → lv_has ls1 7 [(4, .int i), (3, .ref xo), (2, .ref (xMo 0)), (1, .ref xCc), (0, .ref b)] → W p l e room_1 s m args below meth c H1 locs1 (cells + 1) (slots + 6) Q (F0 m 1629 ls1 [])) : W p l e room_1 s m args below meth c H locs cells slots Q (F0 m 723 ls []) := by
  obtain ⟨hx, hb, -, hown, hts, hK, hE, -⟩ := id C0
  refine lv_aload_n hx hb d_law_723 rfl (lv_at hl 3 rfl) ?_
  refine lv_aload_n hx hb d_law_724 rfl (lv_at hl 4 rfl) ?_
  refine lv_iload hx hb d_law_725 (lv_at hl 0 rfl) ?_
  refine lv_iconst (v := 1) hx hb d_law_727 (by decide) ?_
  refine lv_iadd hx hb d_law_728 ?_
  refine va_sld hx hb hX hbl hbA hS h1 d_law_729 ?_
  refine lv_aload_n hx hb d_law_730 rfl (lv_at hl 1 rfl) ?_
  obtain ⟨k, r, q1, o1, hM, hm, ht, hq, hI1⟩ := g_size (l := l) (D := D) (cJ := cJ) (xCc := xCc) (xGo := xGo) (xFo := xFo) (xPk := xPk) (xSk := xSk) (xAi := xAi) (xSh := xSh) (xJo := xJo) (cI := cI) (cZ := cZ) (xo := xo) (q := q) hltr hI (xs (i + 1).toNatClampNeg)
  refine cW (ws' := (wCc xCc cI cZ xGo xFo xPk xSk xAi xSh xJo gGo gFo gPk qPk gSk gAi gSh gJo ++ ([(xo, .inl (cJ, 1, .inr (.inl q1)))] : va_W)) ++ wMo xMo cI cZ o) (As := [.ref xCc, .int (xs (i + 1).toNatClampNeg), .ref xo]) (rest := []) C0 hP hD hS hl.1 [0, 1, 2, 3, 4, 5, 6, 7, 8, 9, 10, 11, 12, 13, 14, 15, 16, 17, 18, 19, 20, 21, 22, 23, 24, 25, 26, 27, 28] (hM H.size) kw_size m_492 (C_pre rfl) rfl rfl (rp_pre rfl rfl) ⟨by decide, by decide⟩ ⟨rfl, rfl⟩ rfl (Nat.le_of_ble_eq_true rfl) d_law_731 hcs (fun H locs hP hD hS => ?_)
  refine lv_istore (lv' := [(5, .int k), (4, .int i), (3, .ref xo), (2, .ref (xMo 0)), (1, .ref xCc), (0, .ref b)]) hx hb d_law_734 hl (by decide) rfl (fun ls hl => ?_)
  refine lv_aload_n hx hb d_law_736 rfl (lv_at hl 3 rfl) ?_
  refine lv_aload_n hx hb d_law_737 rfl (lv_at hl 5 rfl) ?_
  refine lv_iload hx hb d_law_738 (lv_at hl 1 rfl) ?_
  refine lv_iconst (v := 1) hx hb d_law_740 (by decide) ?_
  refine lv_iadd hx hb d_law_741 ?_
  refine va_sld hx hb hX hbl hbA hS h1 d_law_742 ?_
  refine cVi (ws' := (wCc xCc cI cZ xGo xFo xPk xSk xAi xSh xJo gGo gFo gPk qPk gSk gAi gSh gJo ++ ([(xo, .inl (cJ, 1, .inr (.inl q1)))] : va_W)) ++ wMo xMo cI cZ o1) (As := [.int (xs (i + 1).toNatClampNeg)]) (rest := []) C0 hP hD hS hl.1 [29, 30, 31, 32, 33, 34, 35, 36, 37, 38, 39, 40, 41, 42, 43, 44] (c_Mo_size_r l D cI cZ cJ xMo H.size o (xs (i + 1).toNatClampNeg) r o1 hm) k_Mo_size m_877 rfl rfl (C_suf rfl) rfl rfl (rp_suf rfl rfl) ⟨by decide, by decide⟩ ⟨rfl, rfl⟩ rfl (Nat.le_of_ble_eq_true rfl) d_law_743 ⟨hcs.1, hcs.2⟩ (fun H locs hP hD hS => ?_)
  refine lv_istore (lv' := [(6, .int r), (5, .int k), (4, .int i), (3, .ref xo), (2, .ref (xMo 0)), (1, .ref xCc), (0, .ref b)]) hx hb d_law_746 hl (by decide) rfl (fun ls hl => ?_)
  refine lv_aload_n hx hb d_law_748 rfl (lv_at hl 4 rfl) ?_
  refine cVi (ws' := (wCc xCc cI cZ xGo xFo xPk xSk xAi xSh xJo gGo gFo gPk qPk gSk gAi gSh gJo ++ ([(xo, .inl (cJ, 1, .inr (.inl q1)))] : va_W)) ++ wMo xMo cI cZ o1) (As := []) (rest := []) C0 hP hD hS hl.1 [29, 30, 31, 32, 33, 34, 35, 36, 37, 38, 39, 40, 41, 42, 43, 44] (c_Mo_thrown_r l D cI cZ cJ xMo H.size o1 (o1 0 0) rfl) k_Mo_thrown m_798 rfl rfl (C_suf rfl) rfl rfl (rp_same (C_suf rfl)) ⟨by decide, by decide⟩ ⟨rfl, rfl⟩ rfl (Nat.le_of_ble_eq_true rfl) d_law_749 ⟨hcs.1, hcs.2⟩ (fun H locs hP hD hS => ?_)
  refine lv_iload hx hb d_law_752 (lv_at hl 1 rfl) ?_
  refine lv_icmp_eq (tgt := 759) hx hb d_law_754 (by decide) (fun _ => ?_) (fun hne => absurd ht hne)
  refine lv_iload hx hb d_law_759 (lv_at hl 1 rfl) ?_
  have fin : W p l e room_1 s m args below meth c H locs (cells + 1) (slots + 6) Q (F0 m 776 ls []) := by
    refine lv_goto (tgt := 1629) hx hb d_law_776 (by decide) ?_
    exact kk gGo gFo gPk qPk gSk gAi gSh gJo q1 o1 H locs ls hI1 hP hD hS (lv_sub hl [2, 3, 4, 5, 6] rfl)
  refine lv_if_ne (tgt := 776) hx hb d_law_761 (by decide) (fun _ => fin) (fun hk0 => ?_)
  refine lv_aload_n hx hb d_law_764 rfl (lv_at hl 3 rfl) ?_
  refine lv_iconst (v := 0) hx hb d_law_765 (by decide) ?_
  refine va_lald hx hb hK hP 28 2 rfl rfl (inb_in (by decide)) d_law_766 ?_
  refine lv_iload hx hb d_law_767 (lv_at hl 0 rfl) ?_
  refine lv_i2l (v := r.toInt64) hx hb d_law_769 rfl ?_
  refine W.lcmp hx hb d_law_770 ?_
  refine lv_if_eq (tgt := 776) hx hb d_law_771 (by decide) (fun _ => fin) (fun hne => absurd (by rw [hq hk0]; exact lg_self _) hne)
