abbrev rm_La_foam : Room := { frames := 9, cells := 1, slots := 6, locals := 151 }
set_option maxRecDepth 100000 in
set_option maxHeartbeats 4000000 in
theorem w_foam_r (l : Launch) (D : va_G) (cI cZ cJ : ClassId) (xCc : Nat) (xGo : Nat → Nat) (xFo : Nat → Nat) (xPk : Nat → Nat) (xSk : Nat → Nat) (xAi : Nat → Nat) (xSh : Nat → Nat) (xJo : Nat → Nat) (xo sz : Nat) (gGo : St) (gFo : St) (gPk : St) (qPk : Int64) (gSk : St) (gAi : St) (gSh : St) (gJo : St) (q : Nat → Int64) (p1 : Int32) (p2 : Int32) (r : Int32) (gFo1 : St) (h : f_Cc_foam gGo gFo gPk qPk gSk gAi gSh gJo p1 p2 = some (.inl (r, gFo1))) : MW l y_La_foam b_La_foam 5 [(0, 10, 13, 21), (0, 10, 17, 13), (0, 10, 21, 15)] rm_La_foam D (TYS cI cZ cJ) [.ref xCc, .int p1, .int p2, .ref xo] (wCc xCc cI cZ xGo xFo xPk xSk xAi xSh xJo gGo gFo gPk qPk gSk gAi gSh gJo ++ ([(xo, .inl (cJ, 1, .inr (.inl q)))] : va_W)) sz 0 (wCc xCc cI cZ xGo xFo xPk xSk xAi xSh xJo gGo gFo1 gPk qPk gSk gAi gSh gJo ++ ([(xo, .inl (cJ, 1, .inr (.inl (vp_updL q (0 : Int32).toNatClampNeg (r.toInt64)))))] : va_W)) := by
  refine mw_start (own := R_La) (by decide +kernel) rfl (Nat.le_of_ble_eq_true rfl) (fun p e s m args below meth c A ls C0 hr hlk htb hP hD hS hl => ?_)
  obtain ⟨hx, hb, -, hown, hts, hK, hE, -⟩ := id C0
  have hl : lv_has ls 5 [(0, .ref xCc), (1, .int p1), (2, .int p2), (3, .ref xo)] := hl
  obtain ⟨H, hH⟩ : ∃ H, H = s.heap := ⟨_, rfl⟩
  have hP : va_P D vwCl (wCc xCc cI cZ xGo xFo xPk xSk xAi xSh xJo gGo gFo gPk qPk gSk gAi gSh gJo ++ ([(xo, .inl (cJ, 1, .inr (.inl q)))] : va_W)) H := by rw [hH]; exact hP
  have hS : va_S A s.heap H [] := by rw [hH]; exact hS
  rw [show W p l e rm_La_foam s m args below meth c s.heap = W p l e rm_La_foam s m args below meth c H by rw [hH]]
  generalize ([] : List Loc) = locs at hS ⊢
  refine lv_aload_n hx hb d_La_foam_0 rfl (lv_at hl 3 rfl) ?_
  refine lv_iconst (v := 0) hx hb d_La_foam_1 (by decide) ?_
  refine lv_aload_n hx hb d_La_foam_2 rfl (lv_at hl 0 rfl) ?_
  refine lv_iload_n hx hb d_La_foam_3 rfl (lv_at hl 1 rfl) ?_
  refine lv_iload_n hx hb d_La_foam_4 rfl (lv_at hl 2 rfl) ?_
  refine cVi (ws' := wCc xCc cI cZ xGo xFo xPk xSk xAi xSh xJo gGo gFo1 gPk qPk gSk gAi gSh gJo ++ ([(xo, .inl (cJ, 1, .inr (.inl q)))] : va_W)) (As := [.int p1, .int p2]) (rest := [.int 0, .ref xo]) C0 hP hD hS hl.1 [0, 1, 2, 3, 4, 5, 6, 7, 8, 9, 10, 11, 12, 13, 14, 15, 16, 17, 18, 19, 20, 21, 22, 23, 24, 25, 26, 27] (c_Cc_foam_r l D cI cZ cJ xCc xGo xFo xPk xSk xAi xSh xJo H.size gGo gFo gPk qPk gSk gAi gSh gJo p1 p2 r gFo1 h) k_Cc_foam m_366 rfl rfl cc_C rfl cc_w cc_rp ⟨by decide, by decide⟩ ⟨rfl, rfl⟩ rfl (Nat.le_of_ble_eq_true rfl) d_La_foam_5 ⟨Nat.zero_le _, Nat.zero_le _⟩ (fun H locs hP hD hS => ?_)
  refine lv_i2l (v := r.toInt64) hx hb d_La_foam_8 rfl ?_
  refine va_last hx hb hK hP hD hS 28 2 rfl rfl (inb_in (by decide)) d_La_foam_9 (fun H locs hP hD hS => ?_)
  rw [cc_o] at hP hD
  refine lv_goto (tgt := 25) hx hb d_La_foam_10 (by decide) ?_
  refine lv_iconst (v := 0) hx hb d_La_foam_25 (by decide) ?_
  exact mw_ret C0 hr hlk hP hD hS (by decide) (by decide) d_La_foam_26
set_option maxRecDepth 100000 in
set_option maxHeartbeats 4000000 in
theorem w_foam_t (l : Launch) (D : va_G) (cI cZ cJ : ClassId) (xCc : Nat) (xGo : Nat → Nat) (xFo : Nat → Nat) (xPk : Nat → Nat) (xSk : Nat → Nat) (xAi : Nat → Nat) (xSh : Nat → Nat) (xJo : Nat → Nat) (xo sz : Nat) (gGo : St) (gFo : St) (gPk : St) (qPk : Int64) (gSk : St) (gAi : St) (gSh : St) (gJo : St) (q : Nat → Int64) (p1 : Int32) (p2 : Int32) (hltr : l.stackTraces = false) (E : String) (k : Int32) (hEk : (E, k) ∈ [(xIOE, 1), (xISE, 2), (xIAE, 3)]) (h : f_Cc_foam gGo gFo gPk qPk gSk gAi gSh gJo p1 p2 = some (.inr E)) : MW l y_La_foam b_La_foam 5 [(0, 10, 13, 21), (0, 10, 17, 13), (0, 10, 21, 15)] rm_La_foam D (TYS cI cZ cJ) [.ref xCc, .int p1, .int p2, .ref xo] (wCc xCc cI cZ xGo xFo xPk xSk xAi xSh xJo gGo gFo gPk qPk gSk gAi gSh gJo ++ ([(xo, .inl (cJ, 1, .inr (.inl q)))] : va_W)) sz k (wCc xCc cI cZ xGo xFo xPk xSk xAi xSh xJo gGo gFo gPk qPk gSk gAi gSh gJo ++ ([(xo, .inl (cJ, 1, .inr (.inl q)))] : va_W)) := by
  refine mw_start (own := R_La) (by decide +kernel) rfl (Nat.le_of_ble_eq_true rfl) (fun p e s m args below meth c A ls C0 hr hlk htb hP hD hS hl => ?_)
  obtain ⟨hx, hb, -, hown, hts, hK, hE, -⟩ := id C0
  have hl : lv_has ls 5 [(0, .ref xCc), (1, .int p1), (2, .int p2), (3, .ref xo)] := hl
  obtain ⟨H, hH⟩ : ∃ H, H = s.heap := ⟨_, rfl⟩
  have hP : va_P D vwCl (wCc xCc cI cZ xGo xFo xPk xSk xAi xSh xJo gGo gFo gPk qPk gSk gAi gSh gJo ++ ([(xo, .inl (cJ, 1, .inr (.inl q)))] : va_W)) H := by rw [hH]; exact hP
  have hS : va_S A s.heap H [] := by rw [hH]; exact hS
  rw [show W p l e rm_La_foam s m args below meth c s.heap = W p l e rm_La_foam s m args below meth c H by rw [hH]]
  generalize ([] : List Loc) = locs at hS ⊢
  refine lv_aload_n hx hb d_La_foam_0 rfl (lv_at hl 3 rfl) ?_
  refine lv_iconst (v := 0) hx hb d_La_foam_1 (by decide) ?_
  refine lv_aload_n hx hb d_La_foam_2 rfl (lv_at hl 0 rfl) ?_
  refine lv_iload_n hx hb d_La_foam_3 rfl (lv_at hl 1 rfl) ?_
  refine lv_iload_n hx hb d_La_foam_4 rfl (lv_at hl 2 rfl) ?_
  rcases List.mem_cons.mp hEk with hq | hEk
  · obtain ⟨rfl, rfl⟩ := Prod.mk.inj hq
    refine x_got C0 hP hD hS [0, 1, 2, 3, 4, 5, 6, 7, 8, 9, 10, 11, 12, 13, 14, 15, 16, 17, 18, 19, 20, 21, 22, 23, 24, 25, 26, 27] cc_C rfl (rp_same cc_C) (rV (As := [.int p1, .int p2]) (rest := [.int 0, .ref xo]) C0 hP hD hS hl.1 [0, 1, 2, 3, 4, 5, 6, 7, 8, 9, 10, 11, 12, 13, 14, 15, 16, 17, 18, 19, 20, 21, 22, 23, 24, 25, 26, 27] (c_Cc_foam_t l hltr D cI cZ cJ xCc xGo xFo xPk xSk xAi xSh xJo H.size gGo gFo gPk qPk gSk gAi gSh gJo p1 p2 xIOE h) k_Cc_foam m_366 rfl rfl cc_C rfl ⟨by decide, by decide⟩ ⟨rfl, rfl⟩ rfl (Nat.le_of_ble_eq_true rfl) d_La_foam_5 ⟨by decide, by decide⟩) (pre := []) (x := ⟨0, 10, 13, 21⟩) (suf := [⟨0, 10, 17, 13⟩, ⟨0, 10, 21, 15⟩]) (htb.trans rfl) (fun z hz => absurd hz List.not_mem_nil) (by decide) (by decide) m_335 (by decide) (fun q9 H locs hP hD hS => ?_)
    refine lv_astore (lv' := [(4, .ref q9), (0, .ref xCc), (1, .int p1), (2, .int p2), (3, .ref xo)]) hx hb d_La_foam_13 hl (by decide) rfl (fun ls hl => ?_)
    refine lv_iconst (v := 1) hx hb d_La_foam_15 (by decide) ?_
    exact mw_ret C0 hr hlk hP hD hS (Nat.le_refl _) (Nat.le_refl _) d_La_foam_16
  rcases List.mem_cons.mp hEk with hq | hEk
  · obtain ⟨rfl, rfl⟩ := Prod.mk.inj hq
    refine x_got C0 hP hD hS [0, 1, 2, 3, 4, 5, 6, 7, 8, 9, 10, 11, 12, 13, 14, 15, 16, 17, 18, 19, 20, 21, 22, 23, 24, 25, 26, 27] cc_C rfl (rp_same cc_C) (rV (As := [.int p1, .int p2]) (rest := [.int 0, .ref xo]) C0 hP hD hS hl.1 [0, 1, 2, 3, 4, 5, 6, 7, 8, 9, 10, 11, 12, 13, 14, 15, 16, 17, 18, 19, 20, 21, 22, 23, 24, 25, 26, 27] (c_Cc_foam_t l hltr D cI cZ cJ xCc xGo xFo xPk xSk xAi xSh xJo H.size gGo gFo gPk qPk gSk gAi gSh gJo p1 p2 xISE h) k_Cc_foam m_366 rfl rfl cc_C rfl ⟨by decide, by decide⟩ ⟨rfl, rfl⟩ rfl (Nat.le_of_ble_eq_true rfl) d_La_foam_5 ⟨by decide, by decide⟩) (pre := [⟨0, 10, 13, 21⟩]) (x := ⟨0, 10, 17, 13⟩) (suf := [⟨0, 10, 21, 15⟩]) (htb.trans rfl) (List.forall_mem_cons.mpr ⟨⟨by decide, _, m_335, by decide⟩, fun z hz => absurd hz List.not_mem_nil⟩) (by decide) (by decide) m_231 (by decide) (fun q9 H locs hP hD hS => ?_)
    refine lv_astore (lv' := [(4, .ref q9), (0, .ref xCc), (1, .int p1), (2, .int p2), (3, .ref xo)]) hx hb d_La_foam_17 hl (by decide) rfl (fun ls hl => ?_)
    refine lv_iconst (v := 2) hx hb d_La_foam_19 (by decide) ?_
    exact mw_ret C0 hr hlk hP hD hS (Nat.le_refl _) (Nat.le_refl _) d_La_foam_20
  rcases List.mem_cons.mp hEk with hq | hEk
  · obtain ⟨rfl, rfl⟩ := Prod.mk.inj hq
    refine x_got C0 hP hD hS [0, 1, 2, 3, 4, 5, 6, 7, 8, 9, 10, 11, 12, 13, 14, 15, 16, 17, 18, 19, 20, 21, 22, 23, 24, 25, 26, 27] cc_C rfl (rp_same cc_C) (rV (As := [.int p1, .int p2]) (rest := [.int 0, .ref xo]) C0 hP hD hS hl.1 [0, 1, 2, 3, 4, 5, 6, 7, 8, 9, 10, 11, 12, 13, 14, 15, 16, 17, 18, 19, 20, 21, 22, 23, 24, 25, 26, 27] (c_Cc_foam_t l hltr D cI cZ cJ xCc xGo xFo xPk xSk xAi xSh xJo H.size gGo gFo gPk qPk gSk gAi gSh gJo p1 p2 xIAE h) k_Cc_foam m_366 rfl rfl cc_C rfl ⟨by decide, by decide⟩ ⟨rfl, rfl⟩ rfl (Nat.le_of_ble_eq_true rfl) d_La_foam_5 ⟨by decide, by decide⟩) (pre := [⟨0, 10, 13, 21⟩, ⟨0, 10, 17, 13⟩]) (x := ⟨0, 10, 21, 15⟩) (suf := []) (htb.trans rfl) (List.forall_mem_cons.mpr ⟨⟨by decide, _, m_335, by decide⟩, List.forall_mem_cons.mpr ⟨⟨by decide, _, m_231, by decide⟩, fun z hz => absurd hz List.not_mem_nil⟩⟩) (by decide) (by decide) m_232 (by decide) (fun q9 H locs hP hD hS => ?_)
    refine lv_astore (lv' := [(4, .ref q9), (0, .ref xCc), (1, .int p1), (2, .int p2), (3, .ref xo)]) hx hb d_La_foam_21 hl (by decide) rfl (fun ls hl => ?_)
    refine lv_iconst (v := 3) hx hb d_La_foam_23 (by decide) ?_
    exact mw_ret C0 hr hlk hP hD hS (Nat.le_refl _) (Nat.le_refl _) d_La_foam_24
  exact absurd hEk List.not_mem_nil
abbrev rm_La_point : Room := { frames := 10, cells := 1, slots := 6, locals := 177 }
set_option maxRecDepth 100000 in
set_option maxHeartbeats 4000000 in
theorem w_point_r (l : Launch) (D : va_G) (cI cZ cJ : ClassId) (xCc : Nat) (xGo : Nat → Nat) (xFo : Nat → Nat) (xPk : Nat → Nat) (xSk : Nat → Nat) (xAi : Nat → Nat) (xSh : Nat → Nat) (xJo : Nat → Nat) (xo sz : Nat) (gGo : St) (gFo : St) (gPk : St) (qPk : Int64) (gSk : St) (gAi : St) (gSh : St) (gJo : St) (q : Nat → Int64) (p1 : Int32) (p2 : Int32) (p3 : Int32) (p4 : Int32) (r : Int32) (gFo1 : St) (h : f_Cc_point gGo gFo gPk qPk gSk gAi gSh gJo p1 p2 p3 p4 = some (.inl (r, gFo1))) : MW l y_La_point b_La_point 7 [(0, 14, 17, 21), (0, 14, 21, 13), (0, 14, 25, 15)] rm_La_point D (TYS cI cZ cJ) [.ref xCc, .int p1, .int p2, .int p3, .int p4, .ref xo] (wCc xCc cI cZ xGo xFo xPk xSk xAi xSh xJo gGo gFo gPk qPk gSk gAi gSh gJo ++ ([(xo, .inl (cJ, 1, .inr (.inl q)))] : va_W)) sz 0 (wCc xCc cI cZ xGo xFo xPk xSk xAi xSh xJo gGo gFo1 gPk qPk gSk gAi gSh gJo ++ ([(xo, .inl (cJ, 1, .inr (.inl (vp_updL q (0 : Int32).toNatClampNeg (r.toInt64)))))] : va_W)) := by
  refine mw_start (own := R_La) (by decide +kernel) rfl (Nat.le_of_ble_eq_true rfl) (fun p e s m args below meth c A ls C0 hr hlk htb hP hD hS hl => ?_)
  obtain ⟨hx, hb, -, hown, hts, hK, hE, -⟩ := id C0
  have hl : lv_has ls 7 [(0, .ref xCc), (1, .int p1), (2, .int p2), (3, .int p3), (4, .int p4), (5, .ref xo)] := hl
  obtain ⟨H, hH⟩ : ∃ H, H = s.heap := ⟨_, rfl⟩
  have hP : va_P D vwCl (wCc xCc cI cZ xGo xFo xPk xSk xAi xSh xJo gGo gFo gPk qPk gSk gAi gSh gJo ++ ([(xo, .inl (cJ, 1, .inr (.inl q)))] : va_W)) H := by rw [hH]; exact hP
  have hS : va_S A s.heap H [] := by rw [hH]; exact hS
  rw [show W p l e rm_La_point s m args below meth c s.heap = W p l e rm_La_point s m args below meth c H by rw [hH]]
  generalize ([] : List Loc) = locs at hS ⊢
  refine lv_aload hx hb d_La_point_0 (lv_at hl 5 rfl) ?_
  refine lv_iconst (v := 0) hx hb d_La_point_2 (by decide) ?_
  refine lv_aload_n hx hb d_La_point_3 rfl (lv_at hl 0 rfl) ?_
  refine lv_iload_n hx hb d_La_point_4 rfl (lv_at hl 1 rfl) ?_
  refine lv_iload_n hx hb d_La_point_5 rfl (lv_at hl 2 rfl) ?_
  refine lv_iload_n hx hb d_La_point_6 rfl (lv_at hl 3 rfl) ?_
  refine lv_iload hx hb d_La_point_7 (lv_at hl 4 rfl) ?_
  refine cVi (ws' := wCc xCc cI cZ xGo xFo xPk xSk xAi xSh xJo gGo gFo1 gPk qPk gSk gAi gSh gJo ++ ([(xo, .inl (cJ, 1, .inr (.inl q)))] : va_W)) (As := [.int p1, .int p2, .int p3, .int p4]) (rest := [.int 0, .ref xo]) C0 hP hD hS hl.1 [0, 1, 2, 3, 4, 5, 6, 7, 8, 9, 10, 11, 12, 13, 14, 15, 16, 17, 18, 19, 20, 21, 22, 23, 24, 25, 26, 27] (c_Cc_point_r l D cI cZ cJ xCc xGo xFo xPk xSk xAi xSh xJo H.size gGo gFo gPk qPk gSk gAi gSh gJo p1 p2 p3 p4 r gFo1 h) k_Cc_point m_380 rfl rfl cc_C rfl cc_w cc_rp ⟨by decide, by decide⟩ ⟨rfl, rfl⟩ rfl (Nat.le_of_ble_eq_true rfl) d_La_point_9 ⟨Nat.zero_le _, Nat.zero_le _⟩ (fun H locs hP hD hS => ?_)
  refine lv_i2l (v := r.toInt64) hx hb d_La_point_12 rfl ?_
  refine va_last hx hb hK hP hD hS 28 2 rfl rfl (inb_in (by decide)) d_La_point_13 (fun H locs hP hD hS => ?_)
  rw [cc_o] at hP hD
  refine lv_goto (tgt := 29) hx hb d_La_point_14 (by decide) ?_
  refine lv_iconst (v := 0) hx hb d_La_point_29 (by decide) ?_
  exact mw_ret C0 hr hlk hP hD hS (by decide) (by decide) d_La_point_30
set_option maxRecDepth 100000 in
set_option maxHeartbeats 4000000 in
theorem w_point_t (l : Launch) (D : va_G) (cI cZ cJ : ClassId) (xCc : Nat) (xGo : Nat → Nat) (xFo : Nat → Nat) (xPk : Nat → Nat) (xSk : Nat → Nat) (xAi : Nat → Nat) (xSh : Nat → Nat) (xJo : Nat → Nat) (xo sz : Nat) (gGo : St) (gFo : St) (gPk : St) (qPk : Int64) (gSk : St) (gAi : St) (gSh : St) (gJo : St) (q : Nat → Int64) (p1 : Int32) (p2 : Int32) (p3 : Int32) (p4 : Int32) (hltr : l.stackTraces = false) (E : String) (k : Int32) (hEk : (E, k) ∈ [(xIOE, 1), (xISE, 2), (xIAE, 3)]) (h : f_Cc_point gGo gFo gPk qPk gSk gAi gSh gJo p1 p2 p3 p4 = some (.inr E)) : MW l y_La_point b_La_point 7 [(0, 14, 17, 21), (0, 14, 21, 13), (0, 14, 25, 15)] rm_La_point D (TYS cI cZ cJ) [.ref xCc, .int p1, .int p2, .int p3, .int p4, .ref xo] (wCc xCc cI cZ xGo xFo xPk xSk xAi xSh xJo gGo gFo gPk qPk gSk gAi gSh gJo ++ ([(xo, .inl (cJ, 1, .inr (.inl q)))] : va_W)) sz k (wCc xCc cI cZ xGo xFo xPk xSk xAi xSh xJo gGo gFo gPk qPk gSk gAi gSh gJo ++ ([(xo, .inl (cJ, 1, .inr (.inl q)))] : va_W)) := by
  refine mw_start (own := R_La) (by decide +kernel) rfl (Nat.le_of_ble_eq_true rfl) (fun p e s m args below meth c A ls C0 hr hlk htb hP hD hS hl => ?_)
  obtain ⟨hx, hb, -, hown, hts, hK, hE, -⟩ := id C0
  have hl : lv_has ls 7 [(0, .ref xCc), (1, .int p1), (2, .int p2), (3, .int p3), (4, .int p4), (5, .ref xo)] := hl
  obtain ⟨H, hH⟩ : ∃ H, H = s.heap := ⟨_, rfl⟩
  have hP : va_P D vwCl (wCc xCc cI cZ xGo xFo xPk xSk xAi xSh xJo gGo gFo gPk qPk gSk gAi gSh gJo ++ ([(xo, .inl (cJ, 1, .inr (.inl q)))] : va_W)) H := by rw [hH]; exact hP
  have hS : va_S A s.heap H [] := by rw [hH]; exact hS
  rw [show W p l e rm_La_point s m args below meth c s.heap = W p l e rm_La_point s m args below meth c H by rw [hH]]
  generalize ([] : List Loc) = locs at hS ⊢
  refine lv_aload hx hb d_La_point_0 (lv_at hl 5 rfl) ?_
  refine lv_iconst (v := 0) hx hb d_La_point_2 (by decide) ?_
  refine lv_aload_n hx hb d_La_point_3 rfl (lv_at hl 0 rfl) ?_
  refine lv_iload_n hx hb d_La_point_4 rfl (lv_at hl 1 rfl) ?_
  refine lv_iload_n hx hb d_La_point_5 rfl (lv_at hl 2 rfl) ?_
  refine lv_iload_n hx hb d_La_point_6 rfl (lv_at hl 3 rfl) ?_
  refine lv_iload hx hb d_La_point_7 (lv_at hl 4 rfl) ?_
  rcases List.mem_cons.mp hEk with hq | hEk
  · obtain ⟨rfl, rfl⟩ := Prod.mk.inj hq
    refine x_got C0 hP hD hS [0, 1, 2, 3, 4, 5, 6, 7, 8, 9, 10, 11, 12, 13, 14, 15, 16, 17, 18, 19, 20, 21, 22, 23, 24, 25, 26, 27] cc_C rfl (rp_same cc_C) (rV (As := [.int p1, .int p2, .int p3, .int p4]) (rest := [.int 0, .ref xo]) C0 hP hD hS hl.1 [0, 1, 2, 3, 4, 5, 6, 7, 8, 9, 10, 11, 12, 13, 14, 15, 16, 17, 18, 19, 20, 21, 22, 23, 24, 25, 26, 27] (c_Cc_point_t l hltr D cI cZ cJ xCc xGo xFo xPk xSk xAi xSh xJo H.size gGo gFo gPk qPk gSk gAi gSh gJo p1 p2 p3 p4 xIOE h) k_Cc_point m_380 rfl rfl cc_C rfl ⟨by decide, by decide⟩ ⟨rfl, rfl⟩ rfl (Nat.le_of_ble_eq_true rfl) d_La_point_9 ⟨by decide, by decide⟩) (pre := []) (x := ⟨0, 14, 17, 21⟩) (suf := [⟨0, 14, 21, 13⟩, ⟨0, 14, 25, 15⟩]) (htb.trans rfl) (fun z hz => absurd hz List.not_mem_nil) (by decide) (by decide) m_335 (by decide) (fun q9 H locs hP hD hS => ?_)
    refine lv_astore (lv' := [(6, .ref q9), (0, .ref xCc), (1, .int p1), (2, .int p2), (3, .int p3), (4, .int p4), (5, .ref xo)]) hx hb d_La_point_17 hl (by decide) rfl (fun ls hl => ?_)
    refine lv_iconst (v := 1) hx hb d_La_point_19 (by decide) ?_
    exact mw_ret C0 hr hlk hP hD hS (Nat.le_refl _) (Nat.le_refl _) d_La_point_20
  rcases List.mem_cons.mp hEk with hq | hEk
  · obtain ⟨rfl, rfl⟩ := Prod.mk.inj hq
    refine x_got C0 hP hD hS [0, 1, 2, 3, 4, 5, 6, 7, 8, 9, 10, 11, 12, 13, 14, 15, 16, 17, 18, 19, 20, 21, 22, 23, 24, 25, 26, 27] cc_C rfl (rp_same cc_C) (rV (As := [.int p1, .int p2, .int p3, .int p4]) (rest := [.int 0, .ref xo]) C0 hP hD hS hl.1 [0, 1, 2, 3, 4, 5, 6, 7, 8, 9, 10, 11, 12, 13, 14, 15, 16, 17, 18, 19, 20, 21, 22, 23, 24, 25, 26, 27] (c_Cc_point_t l hltr D cI cZ cJ xCc xGo xFo xPk xSk xAi xSh xJo H.size gGo gFo gPk qPk gSk gAi gSh gJo p1 p2 p3 p4 xISE h) k_Cc_point m_380 rfl rfl cc_C rfl ⟨by decide, by decide⟩ ⟨rfl, rfl⟩ rfl (Nat.le_of_ble_eq_true rfl) d_La_point_9 ⟨by decide, by decide⟩) (pre := [⟨0, 14, 17, 21⟩]) (x := ⟨0, 14, 21, 13⟩) (suf := [⟨0, 14, 25, 15⟩]) (htb.trans rfl) (List.forall_mem_cons.mpr ⟨⟨by decide, _, m_335, by decide⟩, fun z hz => absurd hz List.not_mem_nil⟩) (by decide) (by decide) m_231 (by decide) (fun q9 H locs hP hD hS => ?_)
    refine lv_astore (lv' := [(6, .ref q9), (0, .ref xCc), (1, .int p1), (2, .int p2), (3, .int p3), (4, .int p4), (5, .ref xo)]) hx hb d_La_point_21 hl (by decide) rfl (fun ls hl => ?_)
    refine lv_iconst (v := 2) hx hb d_La_point_23 (by decide) ?_
    exact mw_ret C0 hr hlk hP hD hS (Nat.le_refl _) (Nat.le_refl _) d_La_point_24
  rcases List.mem_cons.mp hEk with hq | hEk
  · obtain ⟨rfl, rfl⟩ := Prod.mk.inj hq
    refine x_got C0 hP hD hS [0, 1, 2, 3, 4, 5, 6, 7, 8, 9, 10, 11, 12, 13, 14, 15, 16, 17, 18, 19, 20, 21, 22, 23, 24, 25, 26, 27] cc_C rfl (rp_same cc_C) (rV (As := [.int p1, .int p2, .int p3, .int p4]) (rest := [.int 0, .ref xo]) C0 hP hD hS hl.1 [0, 1, 2, 3, 4, 5, 6, 7, 8, 9, 10, 11, 12, 13, 14, 15, 16, 17, 18, 19, 20, 21, 22, 23, 24, 25, 26, 27] (c_Cc_point_t l hltr D cI cZ cJ xCc xGo xFo xPk xSk xAi xSh xJo H.size gGo gFo gPk qPk gSk gAi gSh gJo p1 p2 p3 p4 xIAE h) k_Cc_point m_380 rfl rfl cc_C rfl ⟨by decide, by decide⟩ ⟨rfl, rfl⟩ rfl (Nat.le_of_ble_eq_true rfl) d_La_point_9 ⟨by decide, by decide⟩) (pre := [⟨0, 14, 17, 21⟩, ⟨0, 14, 21, 13⟩]) (x := ⟨0, 14, 25, 15⟩) (suf := []) (htb.trans rfl) (List.forall_mem_cons.mpr ⟨⟨by decide, _, m_335, by decide⟩, List.forall_mem_cons.mpr ⟨⟨by decide, _, m_231, by decide⟩, fun z hz => absurd hz List.not_mem_nil⟩⟩) (by decide) (by decide) m_232 (by decide) (fun q9 H locs hP hD hS => ?_)
    refine lv_astore (lv' := [(6, .ref q9), (0, .ref xCc), (1, .int p1), (2, .int p2), (3, .int p3), (4, .int p4), (5, .ref xo)]) hx hb d_La_point_25 hl (by decide) rfl (fun ls hl => ?_)
    refine lv_iconst (v := 3) hx hb d_La_point_27 (by decide) ?_
    exact mw_ret C0 hr hlk hP hD hS (Nat.le_refl _) (Nat.le_refl _) d_La_point_28
  exact absurd hEk List.not_mem_nil
abbrev rm_La_value : Room := { frames := 10, cells := 1, slots := 6, locals := 175 }
set_option maxRecDepth 100000 in
set_option maxHeartbeats 4000000 in
theorem w_value_r (l : Launch) (D : va_G) (cI cZ cJ : ClassId) (xCc : Nat) (xGo : Nat → Nat) (xFo : Nat → Nat) (xPk : Nat → Nat) (xSk : Nat → Nat) (xAi : Nat → Nat) (xSh : Nat → Nat) (xJo : Nat → Nat) (xo sz : Nat) (gGo : St) (gFo : St) (gPk : St) (qPk : Int64) (gSk : St) (gAi : St) (gSh : St) (gJo : St) (q : Nat → Int64) (p1 : Int32) (p2 : Int32) (p3 : Int32) (r : Int32)  (h : f_Cc_value gGo gFo gPk qPk gSk gAi gSh gJo p1 p2 p3 = some (.inl r)) : MW l y_La_value b_La_value 6 [(0, 12, 15, 21)] rm_La_value D (TYS cI cZ cJ) [.ref xCc, .int p1, .int p2, .int p3, .ref xo] (wCc xCc cI cZ xGo xFo xPk xSk xAi xSh xJo gGo gFo gPk qPk gSk gAi gSh gJo ++ ([(xo, .inl (cJ, 1, .inr (.inl q)))] : va_W)) sz 0 (wCc xCc cI cZ xGo xFo xPk xSk xAi xSh xJo gGo gFo gPk qPk gSk gAi gSh gJo ++ ([(xo, .inl (cJ, 1, .inr (.inl (vp_updL q (0 : Int32).toNatClampNeg (r.toInt64)))))] : va_W)) := by
  refine mw_start (own := R_La) (by decide +kernel) rfl (Nat.le_of_ble_eq_true rfl) (fun p e s m args below meth c A ls C0 hr hlk htb hP hD hS hl => ?_)
  obtain ⟨hx, hb, -, hown, hts, hK, hE, -⟩ := id C0
  have hl : lv_has ls 6 [(0, .ref xCc), (1, .int p1), (2, .int p2), (3, .int p3), (4, .ref xo)] := hl
  obtain ⟨H, hH⟩ : ∃ H, H = s.heap := ⟨_, rfl⟩
  have hP : va_P D vwCl (wCc xCc cI cZ xGo xFo xPk xSk xAi xSh xJo gGo gFo gPk qPk gSk gAi gSh gJo ++ ([(xo, .inl (cJ, 1, .inr (.inl q)))] : va_W)) H := by rw [hH]; exact hP
  have hS : va_S A s.heap H [] := by rw [hH]; exact hS
  rw [show W p l e rm_La_value s m args below meth c s.heap = W p l e rm_La_value s m args below meth c H by rw [hH]]
  generalize ([] : List Loc) = locs at hS ⊢
  refine lv_aload hx hb d_La_value_0 (lv_at hl 4 rfl) ?_
  refine lv_iconst (v := 0) hx hb d_La_value_2 (by decide) ?_
  refine lv_aload_n hx hb d_La_value_3 rfl (lv_at hl 0 rfl) ?_
  refine lv_iload_n hx hb d_La_value_4 rfl (lv_at hl 1 rfl) ?_
  refine lv_iload_n hx hb d_La_value_5 rfl (lv_at hl 2 rfl) ?_
  refine lv_iload_n hx hb d_La_value_6 rfl (lv_at hl 3 rfl) ?_
  refine cVi (ws' := wCc xCc cI cZ xGo xFo xPk xSk xAi xSh xJo gGo gFo gPk qPk gSk gAi gSh gJo ++ ([(xo, .inl (cJ, 1, .inr (.inl q)))] : va_W)) (As := [.int p1, .int p2, .int p3]) (rest := [.int 0, .ref xo]) C0 hP hD hS hl.1 [0, 1, 2, 3, 4, 5, 6, 7, 8, 9, 10, 11, 12, 13, 14, 15, 16, 17, 18, 19, 20, 21, 22, 23, 24, 25, 26, 27] (c_Cc_value_r l D cI cZ cJ xCc xGo xFo xPk xSk xAi xSh xJo H.size gGo gFo gPk qPk gSk gAi gSh gJo p1 p2 p3 r h) k_Cc_value m_395 rfl rfl cc_C rfl cc_w cc_rp ⟨by decide, by decide⟩ ⟨rfl, rfl⟩ rfl (Nat.le_of_ble_eq_true rfl) d_La_value_7 ⟨Nat.zero_le _, Nat.zero_le _⟩ (fun H locs hP hD hS => ?_)
  refine lv_i2l (v := r.toInt64) hx hb d_La_value_10 rfl ?_
  refine va_last hx hb hK hP hD hS 28 2 rfl rfl (inb_in (by decide)) d_La_value_11 (fun H locs hP hD hS => ?_)
  rw [cc_o] at hP hD
  refine lv_goto (tgt := 19) hx hb d_La_value_12 (by decide) ?_
  refine lv_iconst (v := 0) hx hb d_La_value_19 (by decide) ?_
  exact mw_ret C0 hr hlk hP hD hS (by decide) (by decide) d_La_value_20
set_option maxRecDepth 100000 in
set_option maxHeartbeats 4000000 in
theorem w_value_t (l : Launch) (D : va_G) (cI cZ cJ : ClassId) (xCc : Nat) (xGo : Nat → Nat) (xFo : Nat → Nat) (xPk : Nat → Nat) (xSk : Nat → Nat) (xAi : Nat → Nat) (xSh : Nat → Nat) (xJo : Nat → Nat) (xo sz : Nat) (gGo : St) (gFo : St) (gPk : St) (qPk : Int64) (gSk : St) (gAi : St) (gSh : St) (gJo : St) (q : Nat → Int64) (p1 : Int32) (p2 : Int32) (p3 : Int32) (hltr : l.stackTraces = false) (E : String) (k : Int32) (hEk : (E, k) ∈ [(xIOE, 1)]) (h : f_Cc_value gGo gFo gPk qPk gSk gAi gSh gJo p1 p2 p3 = some (.inr E)) : MW l y_La_value b_La_value 6 [(0, 12, 15, 21)] rm_La_value D (TYS cI cZ cJ) [.ref xCc, .int p1, .int p2, .int p3, .ref xo] (wCc xCc cI cZ xGo xFo xPk xSk xAi xSh xJo gGo gFo gPk qPk gSk gAi gSh gJo ++ ([(xo, .inl (cJ, 1, .inr (.inl q)))] : va_W)) sz k (wCc xCc cI cZ xGo xFo xPk xSk xAi xSh xJo gGo gFo gPk qPk gSk gAi gSh gJo ++ ([(xo, .inl (cJ, 1, .inr (.inl q)))] : va_W)) := by
  refine mw_start (own := R_La) (by decide +kernel) rfl (Nat.le_of_ble_eq_true rfl) (fun p e s m args below meth c A ls C0 hr hlk htb hP hD hS hl => ?_)
  obtain ⟨hx, hb, -, hown, hts, hK, hE, -⟩ := id C0
  have hl : lv_has ls 6 [(0, .ref xCc), (1, .int p1), (2, .int p2), (3, .int p3), (4, .ref xo)] := hl
  obtain ⟨H, hH⟩ : ∃ H, H = s.heap := ⟨_, rfl⟩
  have hP : va_P D vwCl (wCc xCc cI cZ xGo xFo xPk xSk xAi xSh xJo gGo gFo gPk qPk gSk gAi gSh gJo ++ ([(xo, .inl (cJ, 1, .inr (.inl q)))] : va_W)) H := by rw [hH]; exact hP
  have hS : va_S A s.heap H [] := by rw [hH]; exact hS
  rw [show W p l e rm_La_value s m args below meth c s.heap = W p l e rm_La_value s m args below meth c H by rw [hH]]
  generalize ([] : List Loc) = locs at hS ⊢
  refine lv_aload hx hb d_La_value_0 (lv_at hl 4 rfl) ?_
  refine lv_iconst (v := 0) hx hb d_La_value_2 (by decide) ?_
  refine lv_aload_n hx hb d_La_value_3 rfl (lv_at hl 0 rfl) ?_
  refine lv_iload_n hx hb d_La_value_4 rfl (lv_at hl 1 rfl) ?_
  refine lv_iload_n hx hb d_La_value_5 rfl (lv_at hl 2 rfl) ?_
  refine lv_iload_n hx hb d_La_value_6 rfl (lv_at hl 3 rfl) ?_
  rcases List.mem_cons.mp hEk with hq | hEk
  · obtain ⟨rfl, rfl⟩ := Prod.mk.inj hq
    refine x_got C0 hP hD hS [0, 1, 2, 3, 4, 5, 6, 7, 8, 9, 10, 11, 12, 13, 14, 15, 16, 17, 18, 19, 20, 21, 22, 23, 24, 25, 26, 27] cc_C rfl (rp_same cc_C) (rV (As := [.int p1, .int p2, .int p3]) (rest := [.int 0, .ref xo]) C0 hP hD hS hl.1 [0, 1, 2, 3, 4, 5, 6, 7, 8, 9, 10, 11, 12, 13, 14, 15, 16, 17, 18, 19, 20, 21, 22, 23, 24, 25, 26, 27] (c_Cc_value_t l hltr D cI cZ cJ xCc xGo xFo xPk xSk xAi xSh xJo H.size gGo gFo gPk qPk gSk gAi gSh gJo p1 p2 p3 xIOE h) k_Cc_value m_395 rfl rfl cc_C rfl ⟨by decide, by decide⟩ ⟨rfl, rfl⟩ rfl (Nat.le_of_ble_eq_true rfl) d_La_value_7 ⟨by decide, by decide⟩) (pre := []) (x := ⟨0, 12, 15, 21⟩) (suf := []) (htb.trans rfl) (fun z hz => absurd hz List.not_mem_nil) (by decide) (by decide) m_335 (by decide) (fun q9 H locs hP hD hS => ?_)
    refine lv_astore (lv' := [(5, .ref q9), (0, .ref xCc), (1, .int p1), (2, .int p2), (3, .int p3), (4, .ref xo)]) hx hb d_La_value_15 hl (by decide) rfl (fun ls hl => ?_)
    refine lv_iconst (v := 1) hx hb d_La_value_17 (by decide) ?_
    exact mw_ret C0 hr hlk hP hD hS (Nat.le_refl _) (Nat.le_refl _) d_La_value_18
  exact absurd hEk List.not_mem_nil
abbrev rm_La_thickness : Room := { frames := 11, cells := 1, slots := 6, locals := 203 }
set_option maxRecDepth 100000 in
set_option maxHeartbeats 4000000 in
theorem w_thickness_r (l : Launch) (D : va_G) (cI cZ cJ : ClassId) (xCc : Nat) (xGo : Nat → Nat) (xFo : Nat → Nat) (xPk : Nat → Nat) (xSk : Nat → Nat) (xAi : Nat → Nat) (xSh : Nat → Nat) (xJo : Nat → Nat) (xo sz : Nat) (gGo : St) (gFo : St) (gPk : St) (qPk : Int64) (gSk : St) (gAi : St) (gSh : St) (gJo : St) (q : Nat → Int64) (p1 : Int32) (p2 : Int32) (p3 : Int32) (r : Int32)  (h : f_Cc_thickness gGo gFo gPk qPk gSk gAi gSh gJo p1 p2 p3 = some (.inl r)) : MW l y_La_thickness b_La_thickness 6 [(0, 12, 15, 21)] rm_La_thickness D (TYS cI cZ cJ) [.ref xCc, .int p1, .int p2, .int p3, .ref xo] (wCc xCc cI cZ xGo xFo xPk xSk xAi xSh xJo gGo gFo gPk qPk gSk gAi gSh gJo ++ ([(xo, .inl (cJ, 1, .inr (.inl q)))] : va_W)) sz 0 (wCc xCc cI cZ xGo xFo xPk xSk xAi xSh xJo gGo gFo gPk qPk gSk gAi gSh gJo ++ ([(xo, .inl (cJ, 1, .inr (.inl (vp_updL q (0 : Int32).toNatClampNeg (r.toInt64)))))] : va_W)) := by
  refine mw_start (own := R_La) (by decide +kernel) rfl (Nat.le_of_ble_eq_true rfl) (fun p e s m args below meth c A ls C0 hr hlk htb hP hD hS hl => ?_)
  obtain ⟨hx, hb, -, hown, hts, hK, hE, -⟩ := id C0
  have hl : lv_has ls 6 [(0, .ref xCc), (1, .int p1), (2, .int p2), (3, .int p3), (4, .ref xo)] := hl
  obtain ⟨H, hH⟩ : ∃ H, H = s.heap := ⟨_, rfl⟩
  have hP : va_P D vwCl (wCc xCc cI cZ xGo xFo xPk xSk xAi xSh xJo gGo gFo gPk qPk gSk gAi gSh gJo ++ ([(xo, .inl (cJ, 1, .inr (.inl q)))] : va_W)) H := by rw [hH]; exact hP
  have hS : va_S A s.heap H [] := by rw [hH]; exact hS
  rw [show W p l e rm_La_thickness s m args below meth c s.heap = W p l e rm_La_thickness s m args below meth c H by rw [hH]]
  generalize ([] : List Loc) = locs at hS ⊢
  refine lv_aload hx hb d_La_thickness_0 (lv_at hl 4 rfl) ?_
  refine lv_iconst (v := 0) hx hb d_La_thickness_2 (by decide) ?_
  refine lv_aload_n hx hb d_La_thickness_3 rfl (lv_at hl 0 rfl) ?_
  refine lv_iload_n hx hb d_La_thickness_4 rfl (lv_at hl 1 rfl) ?_
  refine lv_iload_n hx hb d_La_thickness_5 rfl (lv_at hl 2 rfl) ?_
  refine lv_iload_n hx hb d_La_thickness_6 rfl (lv_at hl 3 rfl) ?_
  refine cVi (ws' := wCc xCc cI cZ xGo xFo xPk xSk xAi xSh xJo gGo gFo gPk qPk gSk gAi gSh gJo ++ ([(xo, .inl (cJ, 1, .inr (.inl q)))] : va_W)) (As := [.int p1, .int p2, .int p3]) (rest := [.int 0, .ref xo]) C0 hP hD hS hl.1 [0, 1, 2, 3, 4, 5, 6, 7, 8, 9, 10, 11, 12, 13, 14, 15, 16, 17, 18, 19, 20, 21, 22, 23, 24, 25, 26, 27] (c_Cc_thickness_r l D cI cZ cJ xCc xGo xFo xPk xSk xAi xSh xJo H.size gGo gFo gPk qPk gSk gAi gSh gJo p1 p2 p3 r h) k_Cc_thickness m_413 rfl rfl cc_C rfl cc_w cc_rp ⟨by decide, by decide⟩ ⟨rfl, rfl⟩ rfl (Nat.le_of_ble_eq_true rfl) d_La_thickness_7 ⟨Nat.zero_le _, Nat.zero_le _⟩ (fun H locs hP hD hS => ?_)
  refine lv_i2l (v := r.toInt64) hx hb d_La_thickness_10 rfl ?_
  refine va_last hx hb hK hP hD hS 28 2 rfl rfl (inb_in (by decide)) d_La_thickness_11 (fun H locs hP hD hS => ?_)
  rw [cc_o] at hP hD
  refine lv_goto (tgt := 19) hx hb d_La_thickness_12 (by decide) ?_
  refine lv_iconst (v := 0) hx hb d_La_thickness_19 (by decide) ?_
  exact mw_ret C0 hr hlk hP hD hS (by decide) (by decide) d_La_thickness_20
set_option maxRecDepth 100000 in
set_option maxHeartbeats 4000000 in
theorem w_thickness_t (l : Launch) (D : va_G) (cI cZ cJ : ClassId) (xCc : Nat) (xGo : Nat → Nat) (xFo : Nat → Nat) (xPk : Nat → Nat) (xSk : Nat → Nat) (xAi : Nat → Nat) (xSh : Nat → Nat) (xJo : Nat → Nat) (xo sz : Nat) (gGo : St) (gFo : St) (gPk : St) (qPk : Int64) (gSk : St) (gAi : St) (gSh : St) (gJo : St) (q : Nat → Int64) (p1 : Int32) (p2 : Int32) (p3 : Int32) (hltr : l.stackTraces = false) (E : String) (k : Int32) (hEk : (E, k) ∈ [(xIOE, 1)]) (h : f_Cc_thickness gGo gFo gPk qPk gSk gAi gSh gJo p1 p2 p3 = some (.inr E)) : MW l y_La_thickness b_La_thickness 6 [(0, 12, 15, 21)] rm_La_thickness D (TYS cI cZ cJ) [.ref xCc, .int p1, .int p2, .int p3, .ref xo] (wCc xCc cI cZ xGo xFo xPk xSk xAi xSh xJo gGo gFo gPk qPk gSk gAi gSh gJo ++ ([(xo, .inl (cJ, 1, .inr (.inl q)))] : va_W)) sz k (wCc xCc cI cZ xGo xFo xPk xSk xAi xSh xJo gGo gFo gPk qPk gSk gAi gSh gJo ++ ([(xo, .inl (cJ, 1, .inr (.inl q)))] : va_W)) := by
  refine mw_start (own := R_La) (by decide +kernel) rfl (Nat.le_of_ble_eq_true rfl) (fun p e s m args below meth c A ls C0 hr hlk htb hP hD hS hl => ?_)
  obtain ⟨hx, hb, -, hown, hts, hK, hE, -⟩ := id C0
  have hl : lv_has ls 6 [(0, .ref xCc), (1, .int p1), (2, .int p2), (3, .int p3), (4, .ref xo)] := hl
  obtain ⟨H, hH⟩ : ∃ H, H = s.heap := ⟨_, rfl⟩
  have hP : va_P D vwCl (wCc xCc cI cZ xGo xFo xPk xSk xAi xSh xJo gGo gFo gPk qPk gSk gAi gSh gJo ++ ([(xo, .inl (cJ, 1, .inr (.inl q)))] : va_W)) H := by rw [hH]; exact hP
  have hS : va_S A s.heap H [] := by rw [hH]; exact hS
  rw [show W p l e rm_La_thickness s m args below meth c s.heap = W p l e rm_La_thickness s m args below meth c H by rw [hH]]
  generalize ([] : List Loc) = locs at hS ⊢
  refine lv_aload hx hb d_La_thickness_0 (lv_at hl 4 rfl) ?_
  refine lv_iconst (v := 0) hx hb d_La_thickness_2 (by decide) ?_
  refine lv_aload_n hx hb d_La_thickness_3 rfl (lv_at hl 0 rfl) ?_
  refine lv_iload_n hx hb d_La_thickness_4 rfl (lv_at hl 1 rfl) ?_
  refine lv_iload_n hx hb d_La_thickness_5 rfl (lv_at hl 2 rfl) ?_
  refine lv_iload_n hx hb d_La_thickness_6 rfl (lv_at hl 3 rfl) ?_
  rcases List.mem_cons.mp hEk with hq | hEk
  · obtain ⟨rfl, rfl⟩ := Prod.mk.inj hq
    refine x_got C0 hP hD hS [0, 1, 2, 3, 4, 5, 6, 7, 8, 9, 10, 11, 12, 13, 14, 15, 16, 17, 18, 19, 20, 21, 22, 23, 24, 25, 26, 27] cc_C rfl (rp_same cc_C) (rV (As := [.int p1, .int p2, .int p3]) (rest := [.int 0, .ref xo]) C0 hP hD hS hl.1 [0, 1, 2, 3, 4, 5, 6, 7, 8, 9, 10, 11, 12, 13, 14, 15, 16, 17, 18, 19, 20, 21, 22, 23, 24, 25, 26, 27] (c_Cc_thickness_t l hltr D cI cZ cJ xCc xGo xFo xPk xSk xAi xSh xJo H.size gGo gFo gPk qPk gSk gAi gSh gJo p1 p2 p3 xIOE h) k_Cc_thickness m_413 rfl rfl cc_C rfl ⟨by decide, by decide⟩ ⟨rfl, rfl⟩ rfl (Nat.le_of_ble_eq_true rfl) d_La_thickness_7 ⟨by decide, by decide⟩) (pre := []) (x := ⟨0, 12, 15, 21⟩) (suf := []) (htb.trans rfl) (fun z hz => absurd hz List.not_mem_nil) (by decide) (by decide) m_335 (by decide) (fun q9 H locs hP hD hS => ?_)
    refine lv_astore (lv' := [(5, .ref q9), (0, .ref xCc), (1, .int p1), (2, .int p2), (3, .int p3), (4, .ref xo)]) hx hb d_La_thickness_15 hl (by decide) rfl (fun ls hl => ?_)
    refine lv_iconst (v := 1) hx hb d_La_thickness_17 (by decide) ?_
    exact mw_ret C0 hr hlk hP hD hS (Nat.le_refl _) (Nat.le_refl _) d_La_thickness_18
  exact absurd hEk List.not_mem_nil
abbrev rm_La_pack : Room := { frames := 9, cells := 1, slots := 6, locals := 179 }
set_option maxRecDepth 100000 in
set_option maxHeartbeats 4000000 in
theorem w_pack_r (l : Launch) (D : va_G) (cI cZ cJ : ClassId) (xCc : Nat) (xGo : Nat → Nat) (xFo : Nat → Nat) (xPk : Nat → Nat) (xSk : Nat → Nat) (xAi : Nat → Nat) (xSh : Nat → Nat) (xJo : Nat → Nat) (xo sz : Nat) (gGo : St) (gFo : St) (gPk : St) (qPk : Int64) (gSk : St) (gAi : St) (gSh : St) (gJo : St) (q : Nat → Int64) (p1 : Int32) (p2 : Int32) (r : Int32) (gPk1 : St) (qPk1 : Int64) (h : f_Cc_pack gGo gFo gPk qPk gSk gAi gSh gJo p1 p2 = some (.inl (r, gPk1, qPk1))) : MW l y_La_pack b_La_pack 5 [(0, 10, 13, 21), (0, 10, 17, 15)] rm_La_pack D (TYS cI cZ cJ) [.ref xCc, .int p1, .int p2, .ref xo] (wCc xCc cI cZ xGo xFo xPk xSk xAi xSh xJo gGo gFo gPk qPk gSk gAi gSh gJo ++ ([(xo, .inl (cJ, 1, .inr (.inl q)))] : va_W)) sz 0 (wCc xCc cI cZ xGo xFo xPk xSk xAi xSh xJo gGo gFo gPk1 qPk1 gSk gAi gSh gJo ++ ([(xo, .inl (cJ, 1, .inr (.inl (vp_updL q (0 : Int32).toNatClampNeg (r.toInt64)))))] : va_W)) := by
  refine mw_start (own := R_La) (by decide +kernel) rfl (Nat.le_of_ble_eq_true rfl) (fun p e s m args below meth c A ls C0 hr hlk htb hP hD hS hl => ?_)
  obtain ⟨hx, hb, -, hown, hts, hK, hE, -⟩ := id C0
  have hl : lv_has ls 5 [(0, .ref xCc), (1, .int p1), (2, .int p2), (3, .ref xo)] := hl
  obtain ⟨H, hH⟩ : ∃ H, H = s.heap := ⟨_, rfl⟩
  have hP : va_P D vwCl (wCc xCc cI cZ xGo xFo xPk xSk xAi xSh xJo gGo gFo gPk qPk gSk gAi gSh gJo ++ ([(xo, .inl (cJ, 1, .inr (.inl q)))] : va_W)) H := by rw [hH]; exact hP
  have hS : va_S A s.heap H [] := by rw [hH]; exact hS
  rw [show W p l e rm_La_pack s m args below meth c s.heap = W p l e rm_La_pack s m args below meth c H by rw [hH]]
  generalize ([] : List Loc) = locs at hS ⊢
  refine lv_aload_n hx hb d_La_pack_0 rfl (lv_at hl 3 rfl) ?_
  refine lv_iconst (v := 0) hx hb d_La_pack_1 (by decide) ?_
  refine lv_aload_n hx hb d_La_pack_2 rfl (lv_at hl 0 rfl) ?_
  refine lv_iload_n hx hb d_La_pack_3 rfl (lv_at hl 1 rfl) ?_
  refine lv_iload_n hx hb d_La_pack_4 rfl (lv_at hl 2 rfl) ?_
  refine cVi (ws' := wCc xCc cI cZ xGo xFo xPk xSk xAi xSh xJo gGo gFo gPk1 qPk1 gSk gAi gSh gJo ++ ([(xo, .inl (cJ, 1, .inr (.inl q)))] : va_W)) (As := [.int p1, .int p2]) (rest := [.int 0, .ref xo]) C0 hP hD hS hl.1 [0, 1, 2, 3, 4, 5, 6, 7, 8, 9, 10, 11, 12, 13, 14, 15, 16, 17, 18, 19, 20, 21, 22, 23, 24, 25, 26, 27] (c_Cc_pack_r l D cI cZ cJ xCc xGo xFo xPk xSk xAi xSh xJo H.size gGo gFo gPk qPk gSk gAi gSh gJo p1 p2 r gPk1 qPk1 h) k_Cc_pack m_425 rfl rfl cc_C rfl cc_w cc_rp ⟨by decide, by decide⟩ ⟨rfl, rfl⟩ rfl (Nat.le_of_ble_eq_true rfl) d_La_pack_5 ⟨Nat.zero_le _, Nat.zero_le _⟩ (fun H locs hP hD hS => ?_)
  refine lv_i2l (v := r.toInt64) hx hb d_La_pack_8 rfl ?_
  refine va_last hx hb hK hP hD hS 28 2 rfl rfl (inb_in (by decide)) d_La_pack_9 (fun H locs hP hD hS => ?_)
  rw [cc_o] at hP hD
  refine lv_goto (tgt := 21) hx hb d_La_pack_10 (by decide) ?_
  refine lv_iconst (v := 0) hx hb d_La_pack_21 (by decide) ?_
  exact mw_ret C0 hr hlk hP hD hS (by decide) (by decide) d_La_pack_22
set_option maxRecDepth 100000 in
set_option maxHeartbeats 4000000 in
theorem w_pack_t (l : Launch) (D : va_G) (cI cZ cJ : ClassId) (xCc : Nat) (xGo : Nat → Nat) (xFo : Nat → Nat) (xPk : Nat → Nat) (xSk : Nat → Nat) (xAi : Nat → Nat) (xSh : Nat → Nat) (xJo : Nat → Nat) (xo sz : Nat) (gGo : St) (gFo : St) (gPk : St) (qPk : Int64) (gSk : St) (gAi : St) (gSh : St) (gJo : St) (q : Nat → Int64) (p1 : Int32) (p2 : Int32) (hltr : l.stackTraces = false) (E : String) (k : Int32) (hEk : (E, k) ∈ [(xIOE, 1), (xIAE, 2)]) (h : f_Cc_pack gGo gFo gPk qPk gSk gAi gSh gJo p1 p2 = some (.inr E)) : MW l y_La_pack b_La_pack 5 [(0, 10, 13, 21), (0, 10, 17, 15)] rm_La_pack D (TYS cI cZ cJ) [.ref xCc, .int p1, .int p2, .ref xo] (wCc xCc cI cZ xGo xFo xPk xSk xAi xSh xJo gGo gFo gPk qPk gSk gAi gSh gJo ++ ([(xo, .inl (cJ, 1, .inr (.inl q)))] : va_W)) sz k (wCc xCc cI cZ xGo xFo xPk xSk xAi xSh xJo gGo gFo gPk qPk gSk gAi gSh gJo ++ ([(xo, .inl (cJ, 1, .inr (.inl q)))] : va_W)) := by
  refine mw_start (own := R_La) (by decide +kernel) rfl (Nat.le_of_ble_eq_true rfl) (fun p e s m args below meth c A ls C0 hr hlk htb hP hD hS hl => ?_)
  obtain ⟨hx, hb, -, hown, hts, hK, hE, -⟩ := id C0
  have hl : lv_has ls 5 [(0, .ref xCc), (1, .int p1), (2, .int p2), (3, .ref xo)] := hl
  obtain ⟨H, hH⟩ : ∃ H, H = s.heap := ⟨_, rfl⟩
  have hP : va_P D vwCl (wCc xCc cI cZ xGo xFo xPk xSk xAi xSh xJo gGo gFo gPk qPk gSk gAi gSh gJo ++ ([(xo, .inl (cJ, 1, .inr (.inl q)))] : va_W)) H := by rw [hH]; exact hP
  have hS : va_S A s.heap H [] := by rw [hH]; exact hS
  rw [show W p l e rm_La_pack s m args below meth c s.heap = W p l e rm_La_pack s m args below meth c H by rw [hH]]
  generalize ([] : List Loc) = locs at hS ⊢
  refine lv_aload_n hx hb d_La_pack_0 rfl (lv_at hl 3 rfl) ?_
  refine lv_iconst (v := 0) hx hb d_La_pack_1 (by decide) ?_
  refine lv_aload_n hx hb d_La_pack_2 rfl (lv_at hl 0 rfl) ?_
  refine lv_iload_n hx hb d_La_pack_3 rfl (lv_at hl 1 rfl) ?_
  refine lv_iload_n hx hb d_La_pack_4 rfl (lv_at hl 2 rfl) ?_
  rcases List.mem_cons.mp hEk with hq | hEk
  · obtain ⟨rfl, rfl⟩ := Prod.mk.inj hq
    refine x_got C0 hP hD hS [0, 1, 2, 3, 4, 5, 6, 7, 8, 9, 10, 11, 12, 13, 14, 15, 16, 17, 18, 19, 20, 21, 22, 23, 24, 25, 26, 27] cc_C rfl (rp_same cc_C) (rV (As := [.int p1, .int p2]) (rest := [.int 0, .ref xo]) C0 hP hD hS hl.1 [0, 1, 2, 3, 4, 5, 6, 7, 8, 9, 10, 11, 12, 13, 14, 15, 16, 17, 18, 19, 20, 21, 22, 23, 24, 25, 26, 27] (c_Cc_pack_t l hltr D cI cZ cJ xCc xGo xFo xPk xSk xAi xSh xJo H.size gGo gFo gPk qPk gSk gAi gSh gJo p1 p2 xIOE h) k_Cc_pack m_425 rfl rfl cc_C rfl ⟨by decide, by decide⟩ ⟨rfl, rfl⟩ rfl (Nat.le_of_ble_eq_true rfl) d_La_pack_5 ⟨by decide, by decide⟩) (pre := []) (x := ⟨0, 10, 13, 21⟩) (suf := [⟨0, 10, 17, 15⟩]) (htb.trans rfl) (fun z hz => absurd hz List.not_mem_nil) (by decide) (by decide) m_335 (by decide) (fun q9 H locs hP hD hS => ?_)
    refine lv_astore (lv' := [(4, .ref q9), (0, .ref xCc), (1, .int p1), (2, .int p2), (3, .ref xo)]) hx hb d_La_pack_13 hl (by decide) rfl (fun ls hl => ?_)
    refine lv_iconst (v := 1) hx hb d_La_pack_15 (by decide) ?_
    exact mw_ret C0 hr hlk hP hD hS (Nat.le_refl _) (Nat.le_refl _) d_La_pack_16
  rcases List.mem_cons.mp hEk with hq | hEk
  · obtain ⟨rfl, rfl⟩ := Prod.mk.inj hq
    refine x_got C0 hP hD hS [0, 1, 2, 3, 4, 5, 6, 7, 8, 9, 10, 11, 12, 13, 14, 15, 16, 17, 18, 19, 20, 21, 22, 23, 24, 25, 26, 27] cc_C rfl (rp_same cc_C) (rV (As := [.int p1, .int p2]) (rest := [.int 0, .ref xo]) C0 hP hD hS hl.1 [0, 1, 2, 3, 4, 5, 6, 7, 8, 9, 10, 11, 12, 13, 14, 15, 16, 17, 18, 19, 20, 21, 22, 23, 24, 25, 26, 27] (c_Cc_pack_t l hltr D cI cZ cJ xCc xGo xFo xPk xSk xAi xSh xJo H.size gGo gFo gPk qPk gSk gAi gSh gJo p1 p2 xIAE h) k_Cc_pack m_425 rfl rfl cc_C rfl ⟨by decide, by decide⟩ ⟨rfl, rfl⟩ rfl (Nat.le_of_ble_eq_true rfl) d_La_pack_5 ⟨by decide, by decide⟩) (pre := [⟨0, 10, 13, 21⟩]) (x := ⟨0, 10, 17, 15⟩) (suf := []) (htb.trans rfl) (List.forall_mem_cons.mpr ⟨⟨by decide, _, m_335, by decide⟩, fun z hz => absurd hz List.not_mem_nil⟩) (by decide) (by decide) m_232 (by decide) (fun q9 H locs hP hD hS => ?_)
    refine lv_astore (lv' := [(4, .ref q9), (0, .ref xCc), (1, .int p1), (2, .int p2), (3, .ref xo)]) hx hb d_La_pack_17 hl (by decide) rfl (fun ls hl => ?_)
    refine lv_iconst (v := 2) hx hb d_La_pack_19 (by decide) ?_
    exact mw_ret C0 hr hlk hP hD hS (Nat.le_refl _) (Nat.le_refl _) d_La_pack_20
  exact absurd hEk List.not_mem_nil
abbrev rm_La_size : Room := { frames := 9, cells := 1, slots := 6, locals := 145 }
set_option maxRecDepth 100000 in
set_option maxHeartbeats 4000000 in
theorem w_size_r (l : Launch) (D : va_G) (cI cZ cJ : ClassId) (xCc : Nat) (xGo : Nat → Nat) (xFo : Nat → Nat) (xPk : Nat → Nat) (xSk : Nat → Nat) (xAi : Nat → Nat) (xSh : Nat → Nat) (xJo : Nat → Nat) (xo sz : Nat) (gGo : St) (gFo : St) (gPk : St) (qPk : Int64) (gSk : St) (gAi : St) (gSh : St) (gJo : St) (q : Nat → Int64) (p1 : Int32) (r : Int32)  (h : f_Cc_size gGo gFo gPk qPk gSk gAi gSh gJo p1 = some (.inl r)) : MW l y_La_size b_La_size 4 [(0, 9, 12, 21), (0, 9, 15, 13)] rm_La_size D (TYS cI cZ cJ) [.ref xCc, .int p1, .ref xo] (wCc xCc cI cZ xGo xFo xPk xSk xAi xSh xJo gGo gFo gPk qPk gSk gAi gSh gJo ++ ([(xo, .inl (cJ, 1, .inr (.inl q)))] : va_W)) sz 0 (wCc xCc cI cZ xGo xFo xPk xSk xAi xSh xJo gGo gFo gPk qPk gSk gAi gSh gJo ++ ([(xo, .inl (cJ, 1, .inr (.inl (vp_updL q (0 : Int32).toNatClampNeg (r.toInt64)))))] : va_W)) := by
  refine mw_start (own := R_La) (by decide +kernel) rfl (Nat.le_of_ble_eq_true rfl) (fun p e s m args below meth c A ls C0 hr hlk htb hP hD hS hl => ?_)
  obtain ⟨hx, hb, -, hown, hts, hK, hE, -⟩ := id C0
  have hl : lv_has ls 4 [(0, .ref xCc), (1, .int p1), (2, .ref xo)] := hl
  obtain ⟨H, hH⟩ : ∃ H, H = s.heap := ⟨_, rfl⟩
  have hP : va_P D vwCl (wCc xCc cI cZ xGo xFo xPk xSk xAi xSh xJo gGo gFo gPk qPk gSk gAi gSh gJo ++ ([(xo, .inl (cJ, 1, .inr (.inl q)))] : va_W)) H := by rw [hH]; exact hP
  have hS : va_S A s.heap H [] := by rw [hH]; exact hS
  rw [show W p l e rm_La_size s m args below meth c s.heap = W p l e rm_La_size s m args below meth c H by rw [hH]]
  generalize ([] : List Loc) = locs at hS ⊢
  refine lv_aload_n hx hb d_La_size_0 rfl (lv_at hl 2 rfl) ?_
  refine lv_iconst (v := 0) hx hb d_La_size_1 (by decide) ?_
  refine lv_aload_n hx hb d_La_size_2 rfl (lv_at hl 0 rfl) ?_
  refine lv_iload_n hx hb d_La_size_3 rfl (lv_at hl 1 rfl) ?_
  refine cVi (ws' := wCc xCc cI cZ xGo xFo xPk xSk xAi xSh xJo gGo gFo gPk qPk gSk gAi gSh gJo ++ ([(xo, .inl (cJ, 1, .inr (.inl q)))] : va_W)) (As := [.int p1]) (rest := [.int 0, .ref xo]) C0 hP hD hS hl.1 [0, 1, 2, 3, 4, 5, 6, 7, 8, 9, 10, 11, 12, 13, 14, 15, 16, 17, 18, 19, 20, 21, 22, 23, 24, 25, 26, 27] (c_Cc_size_r l D cI cZ cJ xCc xGo xFo xPk xSk xAi xSh xJo H.size gGo gFo gPk qPk gSk gAi gSh gJo p1 r h) k_Cc_size m_495 rfl rfl cc_C rfl cc_w cc_rp ⟨by decide, by decide⟩ ⟨rfl, rfl⟩ rfl (Nat.le_of_ble_eq_true rfl) d_La_size_4 ⟨Nat.zero_le _, Nat.zero_le _⟩ (fun H locs hP hD hS => ?_)
  refine lv_i2l (v := r.toInt64) hx hb d_La_size_7 rfl ?_
  refine va_last hx hb hK hP hD hS 28 2 rfl rfl (inb_in (by decide)) d_La_size_8 (fun H locs hP hD hS => ?_)
  rw [cc_o] at hP hD
  refine lv_goto (tgt := 18) hx hb d_La_size_9 (by decide) ?_
  refine lv_iconst (v := 0) hx hb d_La_size_18 (by decide) ?_
  exact mw_ret C0 hr hlk hP hD hS (by decide) (by decide) d_La_size_19
set_option maxRecDepth 100000 in
set_option maxHeartbeats 4000000 in
theorem w_size_t (l : Launch) (D : va_G) (cI cZ cJ : ClassId) (xCc : Nat) (xGo : Nat → Nat) (xFo : Nat → Nat) (xPk : Nat → Nat) (xSk : Nat → Nat) (xAi : Nat → Nat) (xSh : Nat → Nat) (xJo : Nat → Nat) (xo sz : Nat) (gGo : St) (gFo : St) (gPk : St) (qPk : Int64) (gSk : St) (gAi : St) (gSh : St) (gJo : St) (q : Nat → Int64) (p1 : Int32) (hltr : l.stackTraces = false) (E : String) (k : Int32) (hEk : (E, k) ∈ [(xIOE, 1), (xISE, 2)]) (h : f_Cc_size gGo gFo gPk qPk gSk gAi gSh gJo p1 = some (.inr E)) : MW l y_La_size b_La_size 4 [(0, 9, 12, 21), (0, 9, 15, 13)] rm_La_size D (TYS cI cZ cJ) [.ref xCc, .int p1, .ref xo] (wCc xCc cI cZ xGo xFo xPk xSk xAi xSh xJo gGo gFo gPk qPk gSk gAi gSh gJo ++ ([(xo, .inl (cJ, 1, .inr (.inl q)))] : va_W)) sz k (wCc xCc cI cZ xGo xFo xPk xSk xAi xSh xJo gGo gFo gPk qPk gSk gAi gSh gJo ++ ([(xo, .inl (cJ, 1, .inr (.inl q)))] : va_W)) := by
  refine mw_start (own := R_La) (by decide +kernel) rfl (Nat.le_of_ble_eq_true rfl) (fun p e s m args below meth c A ls C0 hr hlk htb hP hD hS hl => ?_)
  obtain ⟨hx, hb, -, hown, hts, hK, hE, -⟩ := id C0
  have hl : lv_has ls 4 [(0, .ref xCc), (1, .int p1), (2, .ref xo)] := hl
  obtain ⟨H, hH⟩ : ∃ H, H = s.heap := ⟨_, rfl⟩
  have hP : va_P D vwCl (wCc xCc cI cZ xGo xFo xPk xSk xAi xSh xJo gGo gFo gPk qPk gSk gAi gSh gJo ++ ([(xo, .inl (cJ, 1, .inr (.inl q)))] : va_W)) H := by rw [hH]; exact hP
  have hS : va_S A s.heap H [] := by rw [hH]; exact hS
  rw [show W p l e rm_La_size s m args below meth c s.heap = W p l e rm_La_size s m args below meth c H by rw [hH]]
  generalize ([] : List Loc) = locs at hS ⊢
  refine lv_aload_n hx hb d_La_size_0 rfl (lv_at hl 2 rfl) ?_
  refine lv_iconst (v := 0) hx hb d_La_size_1 (by decide) ?_
  refine lv_aload_n hx hb d_La_size_2 rfl (lv_at hl 0 rfl) ?_
  refine lv_iload_n hx hb d_La_size_3 rfl (lv_at hl 1 rfl) ?_
  rcases List.mem_cons.mp hEk with hq | hEk
  · obtain ⟨rfl, rfl⟩ := Prod.mk.inj hq
    refine x_got C0 hP hD hS [0, 1, 2, 3, 4, 5, 6, 7, 8, 9, 10, 11, 12, 13, 14, 15, 16, 17, 18, 19, 20, 21, 22, 23, 24, 25, 26, 27] cc_C rfl (rp_same cc_C) (rV (As := [.int p1]) (rest := [.int 0, .ref xo]) C0 hP hD hS hl.1 [0, 1, 2, 3, 4, 5, 6, 7, 8, 9, 10, 11, 12, 13, 14, 15, 16, 17, 18, 19, 20, 21, 22, 23, 24, 25, 26, 27] (c_Cc_size_t l hltr D cI cZ cJ xCc xGo xFo xPk xSk xAi xSh xJo H.size gGo gFo gPk qPk gSk gAi gSh gJo p1 xIOE h) k_Cc_size m_495 rfl rfl cc_C rfl ⟨by decide, by decide⟩ ⟨rfl, rfl⟩ rfl (Nat.le_of_ble_eq_true rfl) d_La_size_4 ⟨by decide, by decide⟩) (pre := []) (x := ⟨0, 9, 12, 21⟩) (suf := [⟨0, 9, 15, 13⟩]) (htb.trans rfl) (fun z hz => absurd hz List.not_mem_nil) (by decide) (by decide) m_335 (by decide) (fun q9 H locs hP hD hS => ?_)
    refine lv_astore_n (lv' := [(3, .ref q9), (0, .ref xCc), (1, .int p1), (2, .ref xo)]) hx hb d_La_size_12 rfl hl (by decide) rfl (fun ls hl => ?_)
    refine lv_iconst (v := 1) hx hb d_La_size_13 (by decide) ?_
    exact mw_ret C0 hr hlk hP hD hS (Nat.le_refl _) (Nat.le_refl _) d_La_size_14
  rcases List.mem_cons.mp hEk with hq | hEk
  · obtain ⟨rfl, rfl⟩ := Prod.mk.inj hq
    refine x_got C0 hP hD hS [0, 1, 2, 3, 4, 5, 6, 7, 8, 9, 10, 11, 12, 13, 14, 15, 16, 17, 18, 19, 20, 21, 22, 23, 24, 25, 26, 27] cc_C rfl (rp_same cc_C) (rV (As := [.int p1]) (rest := [.int 0, .ref xo]) C0 hP hD hS hl.1 [0, 1, 2, 3, 4, 5, 6, 7, 8, 9, 10, 11, 12, 13, 14, 15, 16, 17, 18, 19, 20, 21, 22, 23, 24, 25, 26, 27] (c_Cc_size_t l hltr D cI cZ cJ xCc xGo xFo xPk xSk xAi xSh xJo H.size gGo gFo gPk qPk gSk gAi gSh gJo p1 xISE h) k_Cc_size m_495 rfl rfl cc_C rfl ⟨by decide, by decide⟩ ⟨rfl, rfl⟩ rfl (Nat.le_of_ble_eq_true rfl) d_La_size_4 ⟨by decide, by decide⟩) (pre := [⟨0, 9, 12, 21⟩]) (x := ⟨0, 9, 15, 13⟩) (suf := []) (htb.trans rfl) (List.forall_mem_cons.mpr ⟨⟨by decide, _, m_335, by decide⟩, fun z hz => absurd hz List.not_mem_nil⟩) (by decide) (by decide) m_231 (by decide) (fun q9 H locs hP hD hS => ?_)
    refine lv_astore_n (lv' := [(3, .ref q9), (0, .ref xCc), (1, .int p1), (2, .ref xo)]) hx hb d_La_size_15 rfl hl (by decide) rfl (fun ls hl => ?_)
    refine lv_iconst (v := 2) hx hb d_La_size_16 (by decide) ?_
    exact mw_ret C0 hr hlk hP hD hS (Nat.le_refl _) (Nat.le_refl _) d_La_size_17
  exact absurd hEk List.not_mem_nil
abbrev rm_La_at : Room := { frames := 9, cells := 1, slots := 6, locals := 147 }
set_option maxRecDepth 100000 in
set_option maxHeartbeats 4000000 in
theorem w_at_r (l : Launch) (D : va_G) (cI cZ cJ : ClassId) (xCc : Nat) (xGo : Nat → Nat) (xFo : Nat → Nat) (xPk : Nat → Nat) (xSk : Nat → Nat) (xAi : Nat → Nat) (xSh : Nat → Nat) (xJo : Nat → Nat) (xo sz : Nat) (gGo : St) (gFo : St) (gPk : St) (qPk : Int64) (gSk : St) (gAi : St) (gSh : St) (gJo : St) (q : Nat → Int64) (p1 : Int32) (p2 : Int32) (r : Int32)  (h : f_Cc_at gGo gFo gPk qPk gSk gAi gSh gJo p1 p2 = some (.inl r)) : MW l y_La_at b_La_at 5 [(0, 10, 13, 21), (0, 10, 17, 13)] rm_La_at D (TYS cI cZ cJ) [.ref xCc, .int p1, .int p2, .ref xo] (wCc xCc cI cZ xGo xFo xPk xSk xAi xSh xJo gGo gFo gPk qPk gSk gAi gSh gJo ++ ([(xo, .inl (cJ, 1, .inr (.inl q)))] : va_W)) sz 0 (wCc xCc cI cZ xGo xFo xPk xSk xAi xSh xJo gGo gFo gPk qPk gSk gAi gSh gJo ++ ([(xo, .inl (cJ, 1, .inr (.inl (vp_updL q (0 : Int32).toNatClampNeg (r.toInt64)))))] : va_W)) := by
  refine mw_start (own := R_La) (by decide +kernel) rfl (Nat.le_of_ble_eq_true rfl) (fun p e s m args below meth c A ls C0 hr hlk htb hP hD hS hl => ?_)
  obtain ⟨hx, hb, -, hown, hts, hK, hE, -⟩ := id C0
  have hl : lv_has ls 5 [(0, .ref xCc), (1, .int p1), (2, .int p2), (3, .ref xo)] := hl
  obtain ⟨H, hH⟩ : ∃ H, H = s.heap := ⟨_, rfl⟩
  have hP : va_P D vwCl (wCc xCc cI cZ xGo xFo xPk xSk xAi xSh xJo gGo gFo gPk qPk gSk gAi gSh gJo ++ ([(xo, .inl (cJ, 1, .inr (.inl q)))] : va_W)) H := by rw [hH]; exact hP
  have hS : va_S A s.heap H [] := by rw [hH]; exact hS
  rw [show W p l e rm_La_at s m args below meth c s.heap = W p l e rm_La_at s m args below meth c H by rw [hH]]
  generalize ([] : List Loc) = locs at hS ⊢
  refine lv_aload_n hx hb d_La_at_0 rfl (lv_at hl 3 rfl) ?_
  refine lv_iconst (v := 0) hx hb d_La_at_1 (by decide) ?_
  refine lv_aload_n hx hb d_La_at_2 rfl (lv_at hl 0 rfl) ?_
  refine lv_iload_n hx hb d_La_at_3 rfl (lv_at hl 1 rfl) ?_
  refine lv_iload_n hx hb d_La_at_4 rfl (lv_at hl 2 rfl) ?_
  refine cVi (ws' := wCc xCc cI cZ xGo xFo xPk xSk xAi xSh xJo gGo gFo gPk qPk gSk gAi gSh gJo ++ ([(xo, .inl (cJ, 1, .inr (.inl q)))] : va_W)) (As := [.int p1, .int p2]) (rest := [.int 0, .ref xo]) C0 hP hD hS hl.1 [0, 1, 2, 3, 4, 5, 6, 7, 8, 9, 10, 11, 12, 13, 14, 15, 16, 17, 18, 19, 20, 21, 22, 23, 24, 25, 26, 27] (c_Cc_at_r l D cI cZ cJ xCc xGo xFo xPk xSk xAi xSh xJo H.size gGo gFo gPk qPk gSk gAi gSh gJo p1 p2 r h) k_Cc_at m_514 rfl rfl cc_C rfl cc_w cc_rp ⟨by decide, by decide⟩ ⟨rfl, rfl⟩ rfl (Nat.le_of_ble_eq_true rfl) d_La_at_5 ⟨Nat.zero_le _, Nat.zero_le _⟩ (fun H locs hP hD hS => ?_)
  refine lv_i2l (v := r.toInt64) hx hb d_La_at_8 rfl ?_
  refine va_last hx hb hK hP hD hS 28 2 rfl rfl (inb_in (by decide)) d_La_at_9 (fun H locs hP hD hS => ?_)
  rw [cc_o] at hP hD
  refine lv_goto (tgt := 21) hx hb d_La_at_10 (by decide) ?_
  refine lv_iconst (v := 0) hx hb d_La_at_21 (by decide) ?_
  exact mw_ret C0 hr hlk hP hD hS (by decide) (by decide) d_La_at_22
set_option maxRecDepth 100000 in
set_option maxHeartbeats 4000000 in
theorem w_at_t (l : Launch) (D : va_G) (cI cZ cJ : ClassId) (xCc : Nat) (xGo : Nat → Nat) (xFo : Nat → Nat) (xPk : Nat → Nat) (xSk : Nat → Nat) (xAi : Nat → Nat) (xSh : Nat → Nat) (xJo : Nat → Nat) (xo sz : Nat) (gGo : St) (gFo : St) (gPk : St) (qPk : Int64) (gSk : St) (gAi : St) (gSh : St) (gJo : St) (q : Nat → Int64) (p1 : Int32) (p2 : Int32) (hltr : l.stackTraces = false) (E : String) (k : Int32) (hEk : (E, k) ∈ [(xIOE, 1), (xISE, 2)]) (h : f_Cc_at gGo gFo gPk qPk gSk gAi gSh gJo p1 p2 = some (.inr E)) : MW l y_La_at b_La_at 5 [(0, 10, 13, 21), (0, 10, 17, 13)] rm_La_at D (TYS cI cZ cJ) [.ref xCc, .int p1, .int p2, .ref xo] (wCc xCc cI cZ xGo xFo xPk xSk xAi xSh xJo gGo gFo gPk qPk gSk gAi gSh gJo ++ ([(xo, .inl (cJ, 1, .inr (.inl q)))] : va_W)) sz k (wCc xCc cI cZ xGo xFo xPk xSk xAi xSh xJo gGo gFo gPk qPk gSk gAi gSh gJo ++ ([(xo, .inl (cJ, 1, .inr (.inl q)))] : va_W)) := by
  refine mw_start (own := R_La) (by decide +kernel) rfl (Nat.le_of_ble_eq_true rfl) (fun p e s m args below meth c A ls C0 hr hlk htb hP hD hS hl => ?_)
  obtain ⟨hx, hb, -, hown, hts, hK, hE, -⟩ := id C0
  have hl : lv_has ls 5 [(0, .ref xCc), (1, .int p1), (2, .int p2), (3, .ref xo)] := hl
  obtain ⟨H, hH⟩ : ∃ H, H = s.heap := ⟨_, rfl⟩
  have hP : va_P D vwCl (wCc xCc cI cZ xGo xFo xPk xSk xAi xSh xJo gGo gFo gPk qPk gSk gAi gSh gJo ++ ([(xo, .inl (cJ, 1, .inr (.inl q)))] : va_W)) H := by rw [hH]; exact hP
  have hS : va_S A s.heap H [] := by rw [hH]; exact hS
  rw [show W p l e rm_La_at s m args below meth c s.heap = W p l e rm_La_at s m args below meth c H by rw [hH]]
  generalize ([] : List Loc) = locs at hS ⊢
  refine lv_aload_n hx hb d_La_at_0 rfl (lv_at hl 3 rfl) ?_
  refine lv_iconst (v := 0) hx hb d_La_at_1 (by decide) ?_
  refine lv_aload_n hx hb d_La_at_2 rfl (lv_at hl 0 rfl) ?_
  refine lv_iload_n hx hb d_La_at_3 rfl (lv_at hl 1 rfl) ?_
  refine lv_iload_n hx hb d_La_at_4 rfl (lv_at hl 2 rfl) ?_
  rcases List.mem_cons.mp hEk with hq | hEk
  · obtain ⟨rfl, rfl⟩ := Prod.mk.inj hq
    refine x_got C0 hP hD hS [0, 1, 2, 3, 4, 5, 6, 7, 8, 9, 10, 11, 12, 13, 14, 15, 16, 17, 18, 19, 20, 21, 22, 23, 24, 25, 26, 27] cc_C rfl (rp_same cc_C) (rV (As := [.int p1, .int p2]) (rest := [.int 0, .ref xo]) C0 hP hD hS hl.1 [0, 1, 2, 3, 4, 5, 6, 7, 8, 9, 10, 11, 12, 13, 14, 15, 16, 17, 18, 19, 20, 21, 22, 23, 24, 25, 26, 27] (c_Cc_at_t l hltr D cI cZ cJ xCc xGo xFo xPk xSk xAi xSh xJo H.size gGo gFo gPk qPk gSk gAi gSh gJo p1 p2 xIOE h) k_Cc_at m_514 rfl rfl cc_C rfl ⟨by decide, by decide⟩ ⟨rfl, rfl⟩ rfl (Nat.le_of_ble_eq_true rfl) d_La_at_5 ⟨by decide, by decide⟩) (pre := []) (x := ⟨0, 10, 13, 21⟩) (suf := [⟨0, 10, 17, 13⟩]) (htb.trans rfl) (fun z hz => absurd hz List.not_mem_nil) (by decide) (by decide) m_335 (by decide) (fun q9 H locs hP hD hS => ?_)
    refine lv_astore (lv' := [(4, .ref q9), (0, .ref xCc), (1, .int p1), (2, .int p2), (3, .ref xo)]) hx hb d_La_at_13 hl (by decide) rfl (fun ls hl => ?_)
    refine lv_iconst (v := 1) hx hb d_La_at_15 (by decide) ?_
    exact mw_ret C0 hr hlk hP hD hS (Nat.le_refl _) (Nat.le_refl _) d_La_at_16
  rcases List.mem_cons.mp hEk with hq | hEk
  · obtain ⟨rfl, rfl⟩ := Prod.mk.inj hq
    refine x_got C0 hP hD hS [0, 1, 2, 3, 4, 5, 6, 7, 8, 9, 10, 11, 12, 13, 14, 15, 16, 17, 18, 19, 20, 21, 22, 23, 24, 25, 26, 27] cc_C rfl (rp_same cc_C) (rV (As := [.int p1, .int p2]) (rest := [.int 0, .ref xo]) C0 hP hD hS hl.1 [0, 1, 2, 3, 4, 5, 6, 7, 8, 9, 10, 11, 12, 13, 14, 15, 16, 17, 18, 19, 20, 21, 22, 23, 24, 25, 26, 27] (c_Cc_at_t l hltr D cI cZ cJ xCc xGo xFo xPk xSk xAi xSh xJo H.size gGo gFo gPk qPk gSk gAi gSh gJo p1 p2 xISE h) k_Cc_at m_514 rfl rfl cc_C rfl ⟨by decide, by decide⟩ ⟨rfl, rfl⟩ rfl (Nat.le_of_ble_eq_true rfl) d_La_at_5 ⟨by decide, by decide⟩) (pre := [⟨0, 10, 13, 21⟩]) (x := ⟨0, 10, 17, 13⟩) (suf := []) (htb.trans rfl) (List.forall_mem_cons.mpr ⟨⟨by decide, _, m_335, by decide⟩, fun z hz => absurd hz List.not_mem_nil⟩) (by decide) (by decide) m_231 (by decide) (fun q9 H locs hP hD hS => ?_)
    refine lv_astore (lv' := [(4, .ref q9), (0, .ref xCc), (1, .int p1), (2, .int p2), (3, .ref xo)]) hx hb d_La_at_17 hl (by decide) rfl (fun ls hl => ?_)
    refine lv_iconst (v := 2) hx hb d_La_at_19 (by decide) ?_
    exact mw_ret C0 hr hlk hP hD hS (Nat.le_refl _) (Nat.le_refl _) d_La_at_20
  exact absurd hEk List.not_mem_nil
abbrev rm_La_crate : Room := { frames := 9, cells := 1, slots := 6, locals := 150 }
set_option maxRecDepth 100000 in
set_option maxHeartbeats 4000000 in
theorem w_crate_r (l : Launch) (D : va_G) (cI cZ cJ : ClassId) (xCc : Nat) (xGo : Nat → Nat) (xFo : Nat → Nat) (xPk : Nat → Nat) (xSk : Nat → Nat) (xAi : Nat → Nat) (xSh : Nat → Nat) (xJo : Nat → Nat) (xo sz : Nat) (gGo : St) (gFo : St) (gPk : St) (qPk : Int64) (gSk : St) (gAi : St) (gSh : St) (gJo : St) (q : Nat → Int64) (p1 : Int32) (p2 : Int32) (p3 : Int32) (r : Int32) (gSk1 : St) (h : f_Cc_crate gGo gFo gPk qPk gSk gAi gSh gJo p1 p2 p3 = some (.inl (r, gSk1))) : MW l y_La_crate b_La_crate 6 [(0, 12, 15, 13), (0, 12, 19, 15)] rm_La_crate D (TYS cI cZ cJ) [.ref xCc, .int p1, .int p2, .int p3, .ref xo] (wCc xCc cI cZ xGo xFo xPk xSk xAi xSh xJo gGo gFo gPk qPk gSk gAi gSh gJo ++ ([(xo, .inl (cJ, 1, .inr (.inl q)))] : va_W)) sz 0 (wCc xCc cI cZ xGo xFo xPk xSk xAi xSh xJo gGo gFo gPk qPk gSk1 gAi gSh gJo ++ ([(xo, .inl (cJ, 1, .inr (.inl (vp_updL q (0 : Int32).toNatClampNeg (r.toInt64)))))] : va_W)) := by
  refine mw_start (own := R_La) (by decide +kernel) rfl (Nat.le_of_ble_eq_true rfl) (fun p e s m args below meth c A ls C0 hr hlk htb hP hD hS hl => ?_)
  obtain ⟨hx, hb, -, hown, hts, hK, hE, -⟩ := id C0
  have hl : lv_has ls 6 [(0, .ref xCc), (1, .int p1), (2, .int p2), (3, .int p3), (4, .ref xo)] := hl
  obtain ⟨H, hH⟩ : ∃ H, H = s.heap := ⟨_, rfl⟩
  have hP : va_P D vwCl (wCc xCc cI cZ xGo xFo xPk xSk xAi xSh xJo gGo gFo gPk qPk gSk gAi gSh gJo ++ ([(xo, .inl (cJ, 1, .inr (.inl q)))] : va_W)) H := by rw [hH]; exact hP
  have hS : va_S A s.heap H [] := by rw [hH]; exact hS
  rw [show W p l e rm_La_crate s m args below meth c s.heap = W p l e rm_La_crate s m args below meth c H by rw [hH]]
  generalize ([] : List Loc) = locs at hS ⊢
  refine lv_aload hx hb d_La_crate_0 (lv_at hl 4 rfl) ?_
  refine lv_iconst (v := 0) hx hb d_La_crate_2 (by decide) ?_
  refine lv_aload_n hx hb d_La_crate_3 rfl (lv_at hl 0 rfl) ?_
  refine lv_iload_n hx hb d_La_crate_4 rfl (lv_at hl 1 rfl) ?_
  refine lv_iload_n hx hb d_La_crate_5 rfl (lv_at hl 2 rfl) ?_
  refine lv_iload_n hx hb d_La_crate_6 rfl (lv_at hl 3 rfl) ?_
  refine cVi (ws' := wCc xCc cI cZ xGo xFo xPk xSk xAi xSh xJo gGo gFo gPk qPk gSk1 gAi gSh gJo ++ ([(xo, .inl (cJ, 1, .inr (.inl q)))] : va_W)) (As := [.int p1, .int p2, .int p3]) (rest := [.int 0, .ref xo]) C0 hP hD hS hl.1 [0, 1, 2, 3, 4, 5, 6, 7, 8, 9, 10, 11, 12, 13, 14, 15, 16, 17, 18, 19, 20, 21, 22, 23, 24, 25, 26, 27] (c_Cc_crate_r l D cI cZ cJ xCc xGo xFo xPk xSk xAi xSh xJo H.size gGo gFo gPk qPk gSk gAi gSh gJo p1 p2 p3 r gSk1 h) k_Cc_crate m_527 rfl rfl cc_C rfl cc_w cc_rp ⟨by decide, by decide⟩ ⟨rfl, rfl⟩ rfl (Nat.le_of_ble_eq_true rfl) d_La_crate_7 ⟨Nat.zero_le _, Nat.zero_le _⟩ (fun H locs hP hD hS => ?_)
  refine lv_i2l (v := r.toInt64) hx hb d_La_crate_10 rfl ?_
  refine va_last hx hb hK hP hD hS 28 2 rfl rfl (inb_in (by decide)) d_La_crate_11 (fun H locs hP hD hS => ?_)
  rw [cc_o] at hP hD
  refine lv_goto (tgt := 23) hx hb d_La_crate_12 (by decide) ?_
  refine lv_iconst (v := 0) hx hb d_La_crate_23 (by decide) ?_
  exact mw_ret C0 hr hlk hP hD hS (by decide) (by decide) d_La_crate_24
set_option maxRecDepth 100000 in
set_option maxHeartbeats 4000000 in
theorem w_crate_t (l : Launch) (D : va_G) (cI cZ cJ : ClassId) (xCc : Nat) (xGo : Nat → Nat) (xFo : Nat → Nat) (xPk : Nat → Nat) (xSk : Nat → Nat) (xAi : Nat → Nat) (xSh : Nat → Nat) (xJo : Nat → Nat) (xo sz : Nat) (gGo : St) (gFo : St) (gPk : St) (qPk : Int64) (gSk : St) (gAi : St) (gSh : St) (gJo : St) (q : Nat → Int64) (p1 : Int32) (p2 : Int32) (p3 : Int32) (hltr : l.stackTraces = false) (E : String) (k : Int32) (hEk : (E, k) ∈ [(xISE, 1), (xIAE, 2)]) (h : f_Cc_crate gGo gFo gPk qPk gSk gAi gSh gJo p1 p2 p3 = some (.inr E)) : MW l y_La_crate b_La_crate 6 [(0, 12, 15, 13), (0, 12, 19, 15)] rm_La_crate D (TYS cI cZ cJ) [.ref xCc, .int p1, .int p2, .int p3, .ref xo] (wCc xCc cI cZ xGo xFo xPk xSk xAi xSh xJo gGo gFo gPk qPk gSk gAi gSh gJo ++ ([(xo, .inl (cJ, 1, .inr (.inl q)))] : va_W)) sz k (wCc xCc cI cZ xGo xFo xPk xSk xAi xSh xJo gGo gFo gPk qPk gSk gAi gSh gJo ++ ([(xo, .inl (cJ, 1, .inr (.inl q)))] : va_W)) := by
  refine mw_start (own := R_La) (by decide +kernel) rfl (Nat.le_of_ble_eq_true rfl) (fun p e s m args below meth c A ls C0 hr hlk htb hP hD hS hl => ?_)
  obtain ⟨hx, hb, -, hown, hts, hK, hE, -⟩ := id C0
  have hl : lv_has ls 6 [(0, .ref xCc), (1, .int p1), (2, .int p2), (3, .int p3), (4, .ref xo)] := hl
  obtain ⟨H, hH⟩ : ∃ H, H = s.heap := ⟨_, rfl⟩
  have hP : va_P D vwCl (wCc xCc cI cZ xGo xFo xPk xSk xAi xSh xJo gGo gFo gPk qPk gSk gAi gSh gJo ++ ([(xo, .inl (cJ, 1, .inr (.inl q)))] : va_W)) H := by rw [hH]; exact hP
  have hS : va_S A s.heap H [] := by rw [hH]; exact hS
  rw [show W p l e rm_La_crate s m args below meth c s.heap = W p l e rm_La_crate s m args below meth c H by rw [hH]]
  generalize ([] : List Loc) = locs at hS ⊢
  refine lv_aload hx hb d_La_crate_0 (lv_at hl 4 rfl) ?_
  refine lv_iconst (v := 0) hx hb d_La_crate_2 (by decide) ?_
  refine lv_aload_n hx hb d_La_crate_3 rfl (lv_at hl 0 rfl) ?_
  refine lv_iload_n hx hb d_La_crate_4 rfl (lv_at hl 1 rfl) ?_
  refine lv_iload_n hx hb d_La_crate_5 rfl (lv_at hl 2 rfl) ?_
  refine lv_iload_n hx hb d_La_crate_6 rfl (lv_at hl 3 rfl) ?_
  rcases List.mem_cons.mp hEk with hq | hEk
  · obtain ⟨rfl, rfl⟩ := Prod.mk.inj hq
    refine x_got C0 hP hD hS [0, 1, 2, 3, 4, 5, 6, 7, 8, 9, 10, 11, 12, 13, 14, 15, 16, 17, 18, 19, 20, 21, 22, 23, 24, 25, 26, 27] cc_C rfl (rp_same cc_C) (rV (As := [.int p1, .int p2, .int p3]) (rest := [.int 0, .ref xo]) C0 hP hD hS hl.1 [0, 1, 2, 3, 4, 5, 6, 7, 8, 9, 10, 11, 12, 13, 14, 15, 16, 17, 18, 19, 20, 21, 22, 23, 24, 25, 26, 27] (c_Cc_crate_t l hltr D cI cZ cJ xCc xGo xFo xPk xSk xAi xSh xJo H.size gGo gFo gPk qPk gSk gAi gSh gJo p1 p2 p3 xISE h) k_Cc_crate m_527 rfl rfl cc_C rfl ⟨by decide, by decide⟩ ⟨rfl, rfl⟩ rfl (Nat.le_of_ble_eq_true rfl) d_La_crate_7 ⟨by decide, by decide⟩) (pre := []) (x := ⟨0, 12, 15, 13⟩) (suf := [⟨0, 12, 19, 15⟩]) (htb.trans rfl) (fun z hz => absurd hz List.not_mem_nil) (by decide) (by decide) m_231 (by decide) (fun q9 H locs hP hD hS => ?_)
    refine lv_astore (lv' := [(5, .ref q9), (0, .ref xCc), (1, .int p1), (2, .int p2), (3, .int p3), (4, .ref xo)]) hx hb d_La_crate_15 hl (by decide) rfl (fun ls hl => ?_)
    refine lv_iconst (v := 1) hx hb d_La_crate_17 (by decide) ?_
    exact mw_ret C0 hr hlk hP hD hS (Nat.le_refl _) (Nat.le_refl _) d_La_crate_18
  rcases List.mem_cons.mp hEk with hq | hEk
  · obtain ⟨rfl, rfl⟩ := Prod.mk.inj hq
    refine x_got C0 hP hD hS [0, 1, 2, 3, 4, 5, 6, 7, 8, 9, 10, 11, 12, 13, 14, 15, 16, 17, 18, 19, 20, 21, 22, 23, 24, 25, 26, 27] cc_C rfl (rp_same cc_C) (rV (As := [.int p1, .int p2, .int p3]) (rest := [.int 0, .ref xo]) C0 hP hD hS hl.1 [0, 1, 2, 3, 4, 5, 6, 7, 8, 9, 10, 11, 12, 13, 14, 15, 16, 17, 18, 19, 20, 21, 22, 23, 24, 25, 26, 27] (c_Cc_crate_t l hltr D cI cZ cJ xCc xGo xFo xPk xSk xAi xSh xJo H.size gGo gFo gPk qPk gSk gAi gSh gJo p1 p2 p3 xIAE h) k_Cc_crate m_527 rfl rfl cc_C rfl ⟨by decide, by decide⟩ ⟨rfl, rfl⟩ rfl (Nat.le_of_ble_eq_true rfl) d_La_crate_7 ⟨by decide, by decide⟩) (pre := [⟨0, 12, 15, 13⟩]) (x := ⟨0, 12, 19, 15⟩) (suf := []) (htb.trans rfl) (List.forall_mem_cons.mpr ⟨⟨by decide, _, m_231, by decide⟩, fun z hz => absurd hz List.not_mem_nil⟩) (by decide) (by decide) m_232 (by decide) (fun q9 H locs hP hD hS => ?_)
    refine lv_astore (lv' := [(5, .ref q9), (0, .ref xCc), (1, .int p1), (2, .int p2), (3, .int p3), (4, .ref xo)]) hx hb d_La_crate_19 hl (by decide) rfl (fun ls hl => ?_)
    refine lv_iconst (v := 2) hx hb d_La_crate_21 (by decide) ?_
    exact mw_ret C0 hr hlk hP hD hS (Nat.le_refl _) (Nat.le_refl _) d_La_crate_22
  exact absurd hEk List.not_mem_nil
abbrev rm_La_match : Room := { frames := 9, cells := 1, slots := 6, locals := 144 }
set_option maxRecDepth 100000 in
set_option maxHeartbeats 4000000 in
theorem w_match_r (l : Launch) (D : va_G) (cI cZ cJ : ClassId) (xCc : Nat) (xGo : Nat → Nat) (xFo : Nat → Nat) (xPk : Nat → Nat) (xSk : Nat → Nat) (xAi : Nat → Nat) (xSh : Nat → Nat) (xJo : Nat → Nat) (xo sz : Nat) (gGo : St) (gFo : St) (gPk : St) (qPk : Int64) (gSk : St) (gAi : St) (gSh : St) (gJo : St) (q : Nat → Int64)  (r : Int32) (gSk1 : St) (h : f_Cc_match gGo gFo gPk qPk gSk gAi gSh gJo = some (.inl (r, gSk1))) : MW l y_La_match b_La_match 3 [(0, 8, 11, 13)] rm_La_match D (TYS cI cZ cJ) [.ref xCc, .ref xo] (wCc xCc cI cZ xGo xFo xPk xSk xAi xSh xJo gGo gFo gPk qPk gSk gAi gSh gJo ++ ([(xo, .inl (cJ, 1, .inr (.inl q)))] : va_W)) sz 0 (wCc xCc cI cZ xGo xFo xPk xSk xAi xSh xJo gGo gFo gPk qPk gSk1 gAi gSh gJo ++ ([(xo, .inl (cJ, 1, .inr (.inl (vp_updL q (0 : Int32).toNatClampNeg (r.toInt64)))))] : va_W)) := by
  refine mw_start (own := R_La) (by decide +kernel) rfl (Nat.le_of_ble_eq_true rfl) (fun p e s m args below meth c A ls C0 hr hlk htb hP hD hS hl => ?_)
  obtain ⟨hx, hb, -, hown, hts, hK, hE, -⟩ := id C0
  have hl : lv_has ls 3 [(0, .ref xCc), (1, .ref xo)] := hl
  obtain ⟨H, hH⟩ : ∃ H, H = s.heap := ⟨_, rfl⟩
  have hP : va_P D vwCl (wCc xCc cI cZ xGo xFo xPk xSk xAi xSh xJo gGo gFo gPk qPk gSk gAi gSh gJo ++ ([(xo, .inl (cJ, 1, .inr (.inl q)))] : va_W)) H := by rw [hH]; exact hP
  have hS : va_S A s.heap H [] := by rw [hH]; exact hS
  rw [show W p l e rm_La_match s m args below meth c s.heap = W p l e rm_La_match s m args below meth c H by rw [hH]]
  generalize ([] : List Loc) = locs at hS ⊢
  refine lv_aload_n hx hb d_La_match_0 rfl (lv_at hl 1 rfl) ?_
  refine lv_iconst (v := 0) hx hb d_La_match_1 (by decide) ?_
  refine lv_aload_n hx hb d_La_match_2 rfl (lv_at hl 0 rfl) ?_
  refine cVi (ws' := wCc xCc cI cZ xGo xFo xPk xSk xAi xSh xJo gGo gFo gPk qPk gSk1 gAi gSh gJo ++ ([(xo, .inl (cJ, 1, .inr (.inl q)))] : va_W)) (As := []) (rest := [.int 0, .ref xo]) C0 hP hD hS hl.1 [0, 1, 2, 3, 4, 5, 6, 7, 8, 9, 10, 11, 12, 13, 14, 15, 16, 17, 18, 19, 20, 21, 22, 23, 24, 25, 26, 27] (c_Cc_match_r l D cI cZ cJ xCc xGo xFo xPk xSk xAi xSh xJo H.size gGo gFo gPk qPk gSk gAi gSh gJo r gSk1 h) k_Cc_match m_540 rfl rfl cc_C rfl cc_w cc_rp ⟨by decide, by decide⟩ ⟨rfl, rfl⟩ rfl (Nat.le_of_ble_eq_true rfl) d_La_match_3 ⟨Nat.zero_le _, Nat.zero_le _⟩ (fun H locs hP hD hS => ?_)
  refine lv_i2l (v := r.toInt64) hx hb d_La_match_6 rfl ?_
  refine va_last hx hb hK hP hD hS 28 2 rfl rfl (inb_in (by decide)) d_La_match_7 (fun H locs hP hD hS => ?_)
  rw [cc_o] at hP hD
  refine lv_goto (tgt := 14) hx hb d_La_match_8 (by decide) ?_
  refine lv_iconst (v := 0) hx hb d_La_match_14 (by decide) ?_
  exact mw_ret C0 hr hlk hP hD hS (by decide) (by decide) d_La_match_15
set_option maxRecDepth 100000 in
set_option maxHeartbeats 4000000 in
theorem w_match_t (l : Launch) (D : va_G) (cI cZ cJ : ClassId) (xCc : Nat) (xGo : Nat → Nat) (xFo : Nat → Nat) (xPk : Nat → Nat) (xSk : Nat → Nat) (xAi : Nat → Nat) (xSh : Nat → Nat) (xJo : Nat → Nat) (xo sz : Nat) (gGo : St) (gFo : St) (gPk : St) (qPk : Int64) (gSk : St) (gAi : St) (gSh : St) (gJo : St) (q : Nat → Int64)  (hltr : l.stackTraces = false) (E : String) (k : Int32) (hEk : (E, k) ∈ [(xISE, 1)]) (h : f_Cc_match gGo gFo gPk qPk gSk gAi gSh gJo = some (.inr E)) : MW l y_La_match b_La_match 3 [(0, 8, 11, 13)] rm_La_match D (TYS cI cZ cJ) [.ref xCc, .ref xo] (wCc xCc cI cZ xGo xFo xPk xSk xAi xSh xJo gGo gFo gPk qPk gSk gAi gSh gJo ++ ([(xo, .inl (cJ, 1, .inr (.inl q)))] : va_W)) sz k (wCc xCc cI cZ xGo xFo xPk xSk xAi xSh xJo gGo gFo gPk qPk gSk gAi gSh gJo ++ ([(xo, .inl (cJ, 1, .inr (.inl q)))] : va_W)) := by
  refine mw_start (own := R_La) (by decide +kernel) rfl (Nat.le_of_ble_eq_true rfl) (fun p e s m args below meth c A ls C0 hr hlk htb hP hD hS hl => ?_)
  obtain ⟨hx, hb, -, hown, hts, hK, hE, -⟩ := id C0
  have hl : lv_has ls 3 [(0, .ref xCc), (1, .ref xo)] := hl
  obtain ⟨H, hH⟩ : ∃ H, H = s.heap := ⟨_, rfl⟩
  have hP : va_P D vwCl (wCc xCc cI cZ xGo xFo xPk xSk xAi xSh xJo gGo gFo gPk qPk gSk gAi gSh gJo ++ ([(xo, .inl (cJ, 1, .inr (.inl q)))] : va_W)) H := by rw [hH]; exact hP
  have hS : va_S A s.heap H [] := by rw [hH]; exact hS
  rw [show W p l e rm_La_match s m args below meth c s.heap = W p l e rm_La_match s m args below meth c H by rw [hH]]
  generalize ([] : List Loc) = locs at hS ⊢
  refine lv_aload_n hx hb d_La_match_0 rfl (lv_at hl 1 rfl) ?_
  refine lv_iconst (v := 0) hx hb d_La_match_1 (by decide) ?_
  refine lv_aload_n hx hb d_La_match_2 rfl (lv_at hl 0 rfl) ?_
  rcases List.mem_cons.mp hEk with hq | hEk
  · obtain ⟨rfl, rfl⟩ := Prod.mk.inj hq
    refine x_got C0 hP hD hS [0, 1, 2, 3, 4, 5, 6, 7, 8, 9, 10, 11, 12, 13, 14, 15, 16, 17, 18, 19, 20, 21, 22, 23, 24, 25, 26, 27] cc_C rfl (rp_same cc_C) (rV (As := []) (rest := [.int 0, .ref xo]) C0 hP hD hS hl.1 [0, 1, 2, 3, 4, 5, 6, 7, 8, 9, 10, 11, 12, 13, 14, 15, 16, 17, 18, 19, 20, 21, 22, 23, 24, 25, 26, 27] (c_Cc_match_t l hltr D cI cZ cJ xCc xGo xFo xPk xSk xAi xSh xJo H.size gGo gFo gPk qPk gSk gAi gSh gJo xISE h) k_Cc_match m_540 rfl rfl cc_C rfl ⟨by decide, by decide⟩ ⟨rfl, rfl⟩ rfl (Nat.le_of_ble_eq_true rfl) d_La_match_3 ⟨by decide, by decide⟩) (pre := []) (x := ⟨0, 8, 11, 13⟩) (suf := []) (htb.trans rfl) (fun z hz => absurd hz List.not_mem_nil) (by decide) (by decide) m_231 (by decide) (fun q9 H locs hP hD hS => ?_)
    refine lv_astore_n (lv' := [(2, .ref q9), (0, .ref xCc), (1, .ref xo)]) hx hb d_La_match_11 rfl hl (by decide) rfl (fun ls hl => ?_)
    refine lv_iconst (v := 1) hx hb d_La_match_12 (by decide) ?_
    exact mw_ret C0 hr hlk hP hD hS (Nat.le_refl _) (Nat.le_refl _) d_La_match_13
  exact absurd hEk List.not_mem_nil
abbrev rm_La_free : Room := { frames := 9, cells := 1, slots := 6, locals := 146 }
set_option maxRecDepth 100000 in
set_option maxHeartbeats 4000000 in
theorem w_free_r (l : Launch) (D : va_G) (cI cZ cJ : ClassId) (xCc : Nat) (xGo : Nat → Nat) (xFo : Nat → Nat) (xPk : Nat → Nat) (xSk : Nat → Nat) (xAi : Nat → Nat) (xSh : Nat → Nat) (xJo : Nat → Nat) (xo sz : Nat) (gGo : St) (gFo : St) (gPk : St) (qPk : Int64) (gSk : St) (gAi : St) (gSh : St) (gJo : St) (q : Nat → Int64) (p1 : Int32) (r : Int32) (gSk1 : St) (h : f_Cc_free gGo gFo gPk qPk gSk gAi gSh gJo p1 = some (.inl (r, gSk1))) : MW l y_La_free b_La_free 4 [(0, 16, 19, 21)] rm_La_free D (TYS cI cZ cJ) [.ref xCc, .int p1, .ref xo] (wCc xCc cI cZ xGo xFo xPk xSk xAi xSh xJo gGo gFo gPk qPk gSk gAi gSh gJo ++ ([(xo, .inl (cJ, 1, .inr (.inl q)))] : va_W)) sz 0 (wCc xCc cI cZ xGo xFo xPk xSk xAi xSh xJo gGo gFo gPk qPk gSk1 gAi gSh gJo ++ ([(xo, .inl (cJ, 1, .inr (.inl (vp_updL q (0 : Int32).toNatClampNeg (bz r)))))] : va_W)) := by
  refine mw_start (own := R_La) (by decide +kernel) rfl (Nat.le_of_ble_eq_true rfl) (fun p e s m args below meth c A ls C0 hr hlk htb hP hD hS hl => ?_)
  obtain ⟨hx, hb, -, hown, hts, hK, hE, -⟩ := id C0
  have hl : lv_has ls 4 [(0, .ref xCc), (1, .int p1), (2, .ref xo)] := hl
  obtain ⟨H, hH⟩ : ∃ H, H = s.heap := ⟨_, rfl⟩
  have hP : va_P D vwCl (wCc xCc cI cZ xGo xFo xPk xSk xAi xSh xJo gGo gFo gPk qPk gSk gAi gSh gJo ++ ([(xo, .inl (cJ, 1, .inr (.inl q)))] : va_W)) H := by rw [hH]; exact hP
  have hS : va_S A s.heap H [] := by rw [hH]; exact hS
  rw [show W p l e rm_La_free s m args below meth c s.heap = W p l e rm_La_free s m args below meth c H by rw [hH]]
  generalize ([] : List Loc) = locs at hS ⊢
  refine lv_aload_n hx hb d_La_free_0 rfl (lv_at hl 2 rfl) ?_
  refine lv_iconst (v := 0) hx hb d_La_free_1 (by decide) ?_
  refine lv_aload_n hx hb d_La_free_2 rfl (lv_at hl 0 rfl) ?_
  refine lv_iload_n hx hb d_La_free_3 rfl (lv_at hl 1 rfl) ?_
  refine cVi (ws' := wCc xCc cI cZ xGo xFo xPk xSk xAi xSh xJo gGo gFo gPk qPk gSk1 gAi gSh gJo ++ ([(xo, .inl (cJ, 1, .inr (.inl q)))] : va_W)) (As := [.int p1]) (rest := [.int 0, .ref xo]) C0 hP hD hS hl.1 [0, 1, 2, 3, 4, 5, 6, 7, 8, 9, 10, 11, 12, 13, 14, 15, 16, 17, 18, 19, 20, 21, 22, 23, 24, 25, 26, 27] (c_Cc_free_r l D cI cZ cJ xCc xGo xFo xPk xSk xAi xSh xJo H.size gGo gFo gPk qPk gSk gAi gSh gJo p1 r gSk1 h) k_Cc_free m_556 rfl rfl cc_C rfl cc_w cc_rp ⟨by decide, by decide⟩ ⟨rfl, rfl⟩ rfl (Nat.le_of_ble_eq_true rfl) d_La_free_4 ⟨Nat.zero_le _, Nat.zero_le _⟩ (fun H locs hP hD hS => ?_)
  have key : W p l e rm_La_free s m args below meth c H locs 0 0 (QW below D (TYS cI cZ cJ) A (wCc xCc cI cZ xGo xFo xPk xSk xAi xSh xJo gGo gFo gPk qPk gSk1 gAi gSh gJo ++ ([(xo, .inl (cJ, 1, .inr (.inl (vp_updL q (0 : Int32).toNatClampNeg (bz r)))))] : va_W)) 0 args s) (F0 m 15 ls [.long (bz r), .int 0, .ref xo]) := by
    refine va_last hx hb hK hP hD hS 28 2 rfl rfl (inb_in (by decide)) d_La_free_15 (fun H locs hP hD hS => ?_)
    rw [cc_o] at hP hD
    refine lv_goto (tgt := 22) hx hb d_La_free_16 (by decide) ?_
    refine lv_iconst (v := 0) hx hb d_La_free_22 (by decide) ?_
    exact mw_ret C0 hr hlk hP hD hS (by decide) (by decide) d_La_free_23
  refine lv_if_eq (tgt := 14) hx hb d_La_free_7 (by decide) (fun hz => ?_) (fun hz => ?_)
  · refine lv_lconst (v := 0) hx hb d_La_free_14 (by decide) ?_
    have e0 : bz r = 0 := if_pos hz
    rw [e0] at key ⊢
    exact key
  · refine lv_lconst (v := 1) hx hb d_La_free_10 (by decide) ?_
    refine lv_goto (tgt := 15) hx hb d_La_free_11 (by decide) ?_
    have e0 : bz r = 1 := if_neg hz
    rw [e0] at key ⊢
    exact key
set_option maxRecDepth 100000 in
set_option maxHeartbeats 4000000 in
theorem w_free_t (l : Launch) (D : va_G) (cI cZ cJ : ClassId) (xCc : Nat) (xGo : Nat → Nat) (xFo : Nat → Nat) (xPk : Nat → Nat) (xSk : Nat → Nat) (xAi : Nat → Nat) (xSh : Nat → Nat) (xJo : Nat → Nat) (xo sz : Nat) (gGo : St) (gFo : St) (gPk : St) (qPk : Int64) (gSk : St) (gAi : St) (gSh : St) (gJo : St) (q : Nat → Int64) (p1 : Int32) (hltr : l.stackTraces = false) (E : String) (k : Int32) (hEk : (E, k) ∈ [(xIOE, 1)]) (h : f_Cc_free gGo gFo gPk qPk gSk gAi gSh gJo p1 = some (.inr E)) : MW l y_La_free b_La_free 4 [(0, 16, 19, 21)] rm_La_free D (TYS cI cZ cJ) [.ref xCc, .int p1, .ref xo] (wCc xCc cI cZ xGo xFo xPk xSk xAi xSh xJo gGo gFo gPk qPk gSk gAi gSh gJo ++ ([(xo, .inl (cJ, 1, .inr (.inl q)))] : va_W)) sz k (wCc xCc cI cZ xGo xFo xPk xSk xAi xSh xJo gGo gFo gPk qPk gSk gAi gSh gJo ++ ([(xo, .inl (cJ, 1, .inr (.inl q)))] : va_W)) := by
  refine mw_start (own := R_La) (by decide +kernel) rfl (Nat.le_of_ble_eq_true rfl) (fun p e s m args below meth c A ls C0 hr hlk htb hP hD hS hl => ?_)
  obtain ⟨hx, hb, -, hown, hts, hK, hE, -⟩ := id C0
  have hl : lv_has ls 4 [(0, .ref xCc), (1, .int p1), (2, .ref xo)] := hl
  obtain ⟨H, hH⟩ : ∃ H, H = s.heap := ⟨_, rfl⟩
  have hP : va_P D vwCl (wCc xCc cI cZ xGo xFo xPk xSk xAi xSh xJo gGo gFo gPk qPk gSk gAi gSh gJo ++ ([(xo, .inl (cJ, 1, .inr (.inl q)))] : va_W)) H := by rw [hH]; exact hP
  have hS : va_S A s.heap H [] := by rw [hH]; exact hS
  rw [show W p l e rm_La_free s m args below meth c s.heap = W p l e rm_La_free s m args below meth c H by rw [hH]]
  generalize ([] : List Loc) = locs at hS ⊢
  refine lv_aload_n hx hb d_La_free_0 rfl (lv_at hl 2 rfl) ?_
  refine lv_iconst (v := 0) hx hb d_La_free_1 (by decide) ?_
  refine lv_aload_n hx hb d_La_free_2 rfl (lv_at hl 0 rfl) ?_
  refine lv_iload_n hx hb d_La_free_3 rfl (lv_at hl 1 rfl) ?_
  rcases List.mem_cons.mp hEk with hq | hEk
  · obtain ⟨rfl, rfl⟩ := Prod.mk.inj hq
    refine x_got C0 hP hD hS [0, 1, 2, 3, 4, 5, 6, 7, 8, 9, 10, 11, 12, 13, 14, 15, 16, 17, 18, 19, 20, 21, 22, 23, 24, 25, 26, 27] cc_C rfl (rp_same cc_C) (rV (As := [.int p1]) (rest := [.int 0, .ref xo]) C0 hP hD hS hl.1 [0, 1, 2, 3, 4, 5, 6, 7, 8, 9, 10, 11, 12, 13, 14, 15, 16, 17, 18, 19, 20, 21, 22, 23, 24, 25, 26, 27] (c_Cc_free_t l hltr D cI cZ cJ xCc xGo xFo xPk xSk xAi xSh xJo H.size gGo gFo gPk qPk gSk gAi gSh gJo p1 xIOE h) k_Cc_free m_556 rfl rfl cc_C rfl ⟨by decide, by decide⟩ ⟨rfl, rfl⟩ rfl (Nat.le_of_ble_eq_true rfl) d_La_free_4 ⟨by decide, by decide⟩) (pre := []) (x := ⟨0, 16, 19, 21⟩) (suf := []) (htb.trans rfl) (fun z hz => absurd hz List.not_mem_nil) (by decide) (by decide) m_335 (by decide) (fun q9 H locs hP hD hS => ?_)
    refine lv_astore_n (lv' := [(3, .ref q9), (0, .ref xCc), (1, .int p1), (2, .ref xo)]) hx hb d_La_free_19 rfl hl (by decide) rfl (fun ls hl => ?_)
    refine lv_iconst (v := 1) hx hb d_La_free_20 (by decide) ?_
    exact mw_ret C0 hr hlk hP hD hS (Nat.le_refl _) (Nat.le_refl _) d_La_free_21
  exact absurd hEk List.not_mem_nil
abbrev rm_La_split : Room := { frames := 8, cells := 1, slots := 6, locals := 126 }
set_option maxRecDepth 100000 in
set_option maxHeartbeats 4000000 in
theorem w_split_r (l : Launch) (D : va_G) (cI cZ cJ : ClassId) (xCc : Nat) (xGo : Nat → Nat) (xFo : Nat → Nat) (xPk : Nat → Nat) (xSk : Nat → Nat) (xAi : Nat → Nat) (xSh : Nat → Nat) (xJo : Nat → Nat) (xo sz : Nat) (gGo : St) (gFo : St) (gPk : St) (qPk : Int64) (gSk : St) (gAi : St) (gSh : St) (gJo : St) (q : Nat → Int64) (p1 : Int32) (r : Int32) (gGo1 : St) (h : f_Cc_split gGo gFo gPk qPk gSk gAi gSh gJo p1 = some (.inl (r, gGo1))) : MW l y_La_split b_La_split 4 [(0, 9, 12, 15)] rm_La_split D (TYS cI cZ cJ) [.ref xCc, .int p1, .ref xo] (wCc xCc cI cZ xGo xFo xPk xSk xAi xSh xJo gGo gFo gPk qPk gSk gAi gSh gJo ++ ([(xo, .inl (cJ, 1, .inr (.inl q)))] : va_W)) sz 0 (wCc xCc cI cZ xGo xFo xPk xSk xAi xSh xJo gGo1 gFo gPk qPk gSk gAi gSh gJo ++ ([(xo, .inl (cJ, 1, .inr (.inl (vp_updL q (0 : Int32).toNatClampNeg (r.toInt64)))))] : va_W)) := by
  refine mw_start (own := R_La) (by decide +kernel) rfl (Nat.le_of_ble_eq_true rfl) (fun p e s m args below meth c A ls C0 hr hlk htb hP hD hS hl => ?_)
  obtain ⟨hx, hb, -, hown, hts, hK, hE, -⟩ := id C0
  have hl : lv_has ls 4 [(0, .ref xCc), (1, .int p1), (2, .ref xo)] := hl
  obtain ⟨H, hH⟩ : ∃ H, H = s.heap := ⟨_, rfl⟩
  have hP : va_P D vwCl (wCc xCc cI cZ xGo xFo xPk xSk xAi xSh xJo gGo gFo gPk qPk gSk gAi gSh gJo ++ ([(xo, .inl (cJ, 1, .inr (.inl q)))] : va_W)) H := by rw [hH]; exact hP
  have hS : va_S A s.heap H [] := by rw [hH]; exact hS
  rw [show W p l e rm_La_split s m args below meth c s.heap = W p l e rm_La_split s m args below meth c H by rw [hH]]
  generalize ([] : List Loc) = locs at hS ⊢
  refine lv_aload_n hx hb d_La_split_0 rfl (lv_at hl 2 rfl) ?_
  refine lv_iconst (v := 0) hx hb d_La_split_1 (by decide) ?_
  refine lv_aload_n hx hb d_La_split_2 rfl (lv_at hl 0 rfl) ?_
  refine lv_iload_n hx hb d_La_split_3 rfl (lv_at hl 1 rfl) ?_
  refine cVi (ws' := wCc xCc cI cZ xGo xFo xPk xSk xAi xSh xJo gGo1 gFo gPk qPk gSk gAi gSh gJo ++ ([(xo, .inl (cJ, 1, .inr (.inl q)))] : va_W)) (As := [.int p1]) (rest := [.int 0, .ref xo]) C0 hP hD hS hl.1 [0, 1, 2, 3, 4, 5, 6, 7, 8, 9, 10, 11, 12, 13, 14, 15, 16, 17, 18, 19, 20, 21, 22, 23, 24, 25, 26, 27] (c_Cc_split_r l D cI cZ cJ xCc xGo xFo xPk xSk xAi xSh xJo H.size gGo gFo gPk qPk gSk gAi gSh gJo p1 r gGo1 h) k_Cc_split m_568 rfl rfl cc_C rfl cc_w cc_rp ⟨by decide, by decide⟩ ⟨rfl, rfl⟩ rfl (Nat.le_of_ble_eq_true rfl) d_La_split_4 ⟨Nat.zero_le _, Nat.zero_le _⟩ (fun H locs hP hD hS => ?_)
  refine lv_i2l (v := r.toInt64) hx hb d_La_split_7 rfl ?_
  refine va_last hx hb hK hP hD hS 28 2 rfl rfl (inb_in (by decide)) d_La_split_8 (fun H locs hP hD hS => ?_)
  rw [cc_o] at hP hD
  refine lv_goto (tgt := 15) hx hb d_La_split_9 (by decide) ?_
  refine lv_iconst (v := 0) hx hb d_La_split_15 (by decide) ?_
  exact mw_ret C0 hr hlk hP hD hS (by decide) (by decide) d_La_split_16
set_option maxRecDepth 100000 in
set_option maxHeartbeats 4000000 in
theorem w_split_t (l : Launch) (D : va_G) (cI cZ cJ : ClassId) (xCc : Nat) (xGo : Nat → Nat) (xFo : Nat → Nat) (xPk : Nat → Nat) (xSk : Nat → Nat) (xAi : Nat → Nat) (xSh : Nat → Nat) (xJo : Nat → Nat) (xo sz : Nat) (gGo : St) (gFo : St) (gPk : St) (qPk : Int64) (gSk : St) (gAi : St) (gSh : St) (gJo : St) (q : Nat → Int64) (p1 : Int32) (hltr : l.stackTraces = false) (E : String) (k : Int32) (hEk : (E, k) ∈ [(xIAE, 1)]) (h : f_Cc_split gGo gFo gPk qPk gSk gAi gSh gJo p1 = some (.inr E)) : MW l y_La_split b_La_split 4 [(0, 9, 12, 15)] rm_La_split D (TYS cI cZ cJ) [.ref xCc, .int p1, .ref xo] (wCc xCc cI cZ xGo xFo xPk xSk xAi xSh xJo gGo gFo gPk qPk gSk gAi gSh gJo ++ ([(xo, .inl (cJ, 1, .inr (.inl q)))] : va_W)) sz k (wCc xCc cI cZ xGo xFo xPk xSk xAi xSh xJo gGo gFo gPk qPk gSk gAi gSh gJo ++ ([(xo, .inl (cJ, 1, .inr (.inl q)))] : va_W)) := by
  refine mw_start (own := R_La) (by decide +kernel) rfl (Nat.le_of_ble_eq_true rfl) (fun p e s m args below meth c A ls C0 hr hlk htb hP hD hS hl => ?_)
  obtain ⟨hx, hb, -, hown, hts, hK, hE, -⟩ := id C0
  have hl : lv_has ls 4 [(0, .ref xCc), (1, .int p1), (2, .ref xo)] := hl
  obtain ⟨H, hH⟩ : ∃ H, H = s.heap := ⟨_, rfl⟩
  have hP : va_P D vwCl (wCc xCc cI cZ xGo xFo xPk xSk xAi xSh xJo gGo gFo gPk qPk gSk gAi gSh gJo ++ ([(xo, .inl (cJ, 1, .inr (.inl q)))] : va_W)) H := by rw [hH]; exact hP
  have hS : va_S A s.heap H [] := by rw [hH]; exact hS
  rw [show W p l e rm_La_split s m args below meth c s.heap = W p l e rm_La_split s m args below meth c H by rw [hH]]
  generalize ([] : List Loc) = locs at hS ⊢
  refine lv_aload_n hx hb d_La_split_0 rfl (lv_at hl 2 rfl) ?_
  refine lv_iconst (v := 0) hx hb d_La_split_1 (by decide) ?_
  refine lv_aload_n hx hb d_La_split_2 rfl (lv_at hl 0 rfl) ?_
  refine lv_iload_n hx hb d_La_split_3 rfl (lv_at hl 1 rfl) ?_
  rcases List.mem_cons.mp hEk with hq | hEk
  · obtain ⟨rfl, rfl⟩ := Prod.mk.inj hq
    refine x_got C0 hP hD hS [0, 1, 2, 3, 4, 5, 6, 7, 8, 9, 10, 11, 12, 13, 14, 15, 16, 17, 18, 19, 20, 21, 22, 23, 24, 25, 26, 27] cc_C rfl (rp_same cc_C) (rV (As := [.int p1]) (rest := [.int 0, .ref xo]) C0 hP hD hS hl.1 [0, 1, 2, 3, 4, 5, 6, 7, 8, 9, 10, 11, 12, 13, 14, 15, 16, 17, 18, 19, 20, 21, 22, 23, 24, 25, 26, 27] (c_Cc_split_t l hltr D cI cZ cJ xCc xGo xFo xPk xSk xAi xSh xJo H.size gGo gFo gPk qPk gSk gAi gSh gJo p1 xIAE h) k_Cc_split m_568 rfl rfl cc_C rfl ⟨by decide, by decide⟩ ⟨rfl, rfl⟩ rfl (Nat.le_of_ble_eq_true rfl) d_La_split_4 ⟨by decide, by decide⟩) (pre := []) (x := ⟨0, 9, 12, 15⟩) (suf := []) (htb.trans rfl) (fun z hz => absurd hz List.not_mem_nil) (by decide) (by decide) m_232 (by decide) (fun q9 H locs hP hD hS => ?_)
    refine lv_astore_n (lv' := [(3, .ref q9), (0, .ref xCc), (1, .int p1), (2, .ref xo)]) hx hb d_La_split_12 rfl hl (by decide) rfl (fun ls hl => ?_)
    refine lv_iconst (v := 1) hx hb d_La_split_13 (by decide) ?_
    exact mw_ret C0 hr hlk hP hD hS (Nat.le_refl _) (Nat.le_refl _) d_La_split_14
  exact absurd hEk List.not_mem_nil
abbrev rm_La_lag : Room := { frames := 9, cells := 1, slots := 6, locals := 147 }
set_option maxRecDepth 100000 in
set_option maxHeartbeats 4000000 in
theorem w_lag_r (l : Launch) (D : va_G) (cI cZ cJ : ClassId) (xCc : Nat) (xGo : Nat → Nat) (xFo : Nat → Nat) (xPk : Nat → Nat) (xSk : Nat → Nat) (xAi : Nat → Nat) (xSh : Nat → Nat) (xJo : Nat → Nat) (xo sz : Nat) (gGo : St) (gFo : St) (gPk : St) (qPk : Int64) (gSk : St) (gAi : St) (gSh : St) (gJo : St) (q : Nat → Int64) (p1 : Int32) (r : Int32) (gAi1 : St) (h : f_Cc_lag gGo gFo gPk qPk gSk gAi gSh gJo p1 = some (.inl (r, gAi1))) : MW l y_La_lag b_La_lag 4 [(0, 9, 12, 15)] rm_La_lag D (TYS cI cZ cJ) [.ref xCc, .int p1, .ref xo] (wCc xCc cI cZ xGo xFo xPk xSk xAi xSh xJo gGo gFo gPk qPk gSk gAi gSh gJo ++ ([(xo, .inl (cJ, 1, .inr (.inl q)))] : va_W)) sz 0 (wCc xCc cI cZ xGo xFo xPk xSk xAi xSh xJo gGo gFo gPk qPk gSk gAi1 gSh gJo ++ ([(xo, .inl (cJ, 1, .inr (.inl (vp_updL q (0 : Int32).toNatClampNeg (r.toInt64)))))] : va_W)) := by
  refine mw_start (own := R_La) (by decide +kernel) rfl (Nat.le_of_ble_eq_true rfl) (fun p e s m args below meth c A ls C0 hr hlk htb hP hD hS hl => ?_)
  obtain ⟨hx, hb, -, hown, hts, hK, hE, -⟩ := id C0
  have hl : lv_has ls 4 [(0, .ref xCc), (1, .int p1), (2, .ref xo)] := hl
  obtain ⟨H, hH⟩ : ∃ H, H = s.heap := ⟨_, rfl⟩
  have hP : va_P D vwCl (wCc xCc cI cZ xGo xFo xPk xSk xAi xSh xJo gGo gFo gPk qPk gSk gAi gSh gJo ++ ([(xo, .inl (cJ, 1, .inr (.inl q)))] : va_W)) H := by rw [hH]; exact hP
  have hS : va_S A s.heap H [] := by rw [hH]; exact hS
  rw [show W p l e rm_La_lag s m args below meth c s.heap = W p l e rm_La_lag s m args below meth c H by rw [hH]]
  generalize ([] : List Loc) = locs at hS ⊢
  refine lv_aload_n hx hb d_La_lag_0 rfl (lv_at hl 2 rfl) ?_
  refine lv_iconst (v := 0) hx hb d_La_lag_1 (by decide) ?_
  refine lv_aload_n hx hb d_La_lag_2 rfl (lv_at hl 0 rfl) ?_
  refine lv_iload_n hx hb d_La_lag_3 rfl (lv_at hl 1 rfl) ?_
  refine cVi (ws' := wCc xCc cI cZ xGo xFo xPk xSk xAi xSh xJo gGo gFo gPk qPk gSk gAi1 gSh gJo ++ ([(xo, .inl (cJ, 1, .inr (.inl q)))] : va_W)) (As := [.int p1]) (rest := [.int 0, .ref xo]) C0 hP hD hS hl.1 [0, 1, 2, 3, 4, 5, 6, 7, 8, 9, 10, 11, 12, 13, 14, 15, 16, 17, 18, 19, 20, 21, 22, 23, 24, 25, 26, 27] (c_Cc_lag_r l D cI cZ cJ xCc xGo xFo xPk xSk xAi xSh xJo H.size gGo gFo gPk qPk gSk gAi gSh gJo p1 r gAi1 h) k_Cc_lag m_586 rfl rfl cc_C rfl cc_w cc_rp ⟨by decide, by decide⟩ ⟨rfl, rfl⟩ rfl (Nat.le_of_ble_eq_true rfl) d_La_lag_4 ⟨Nat.zero_le _, Nat.zero_le _⟩ (fun H locs hP hD hS => ?_)
  refine lv_i2l (v := r.toInt64) hx hb d_La_lag_7 rfl ?_
  refine va_last hx hb hK hP hD hS 28 2 rfl rfl (inb_in (by decide)) d_La_lag_8 (fun H locs hP hD hS => ?_)
  rw [cc_o] at hP hD
  refine lv_goto (tgt := 15) hx hb d_La_lag_9 (by decide) ?_
  refine lv_iconst (v := 0) hx hb d_La_lag_15 (by decide) ?_
  exact mw_ret C0 hr hlk hP hD hS (by decide) (by decide) d_La_lag_16
set_option maxRecDepth 100000 in
set_option maxHeartbeats 4000000 in
theorem w_lag_t (l : Launch) (D : va_G) (cI cZ cJ : ClassId) (xCc : Nat) (xGo : Nat → Nat) (xFo : Nat → Nat) (xPk : Nat → Nat) (xSk : Nat → Nat) (xAi : Nat → Nat) (xSh : Nat → Nat) (xJo : Nat → Nat) (xo sz : Nat) (gGo : St) (gFo : St) (gPk : St) (qPk : Int64) (gSk : St) (gAi : St) (gSh : St) (gJo : St) (q : Nat → Int64) (p1 : Int32) (hltr : l.stackTraces = false) (E : String) (k : Int32) (hEk : (E, k) ∈ [(xIAE, 1)]) (h : f_Cc_lag gGo gFo gPk qPk gSk gAi gSh gJo p1 = some (.inr E)) : MW l y_La_lag b_La_lag 4 [(0, 9, 12, 15)] rm_La_lag D (TYS cI cZ cJ) [.ref xCc, .int p1, .ref xo] (wCc xCc cI cZ xGo xFo xPk xSk xAi xSh xJo gGo gFo gPk qPk gSk gAi gSh gJo ++ ([(xo, .inl (cJ, 1, .inr (.inl q)))] : va_W)) sz k (wCc xCc cI cZ xGo xFo xPk xSk xAi xSh xJo gGo gFo gPk qPk gSk gAi gSh gJo ++ ([(xo, .inl (cJ, 1, .inr (.inl q)))] : va_W)) := by
  refine mw_start (own := R_La) (by decide +kernel) rfl (Nat.le_of_ble_eq_true rfl) (fun p e s m args below meth c A ls C0 hr hlk htb hP hD hS hl => ?_)
  obtain ⟨hx, hb, -, hown, hts, hK, hE, -⟩ := id C0
  have hl : lv_has ls 4 [(0, .ref xCc), (1, .int p1), (2, .ref xo)] := hl
  obtain ⟨H, hH⟩ : ∃ H, H = s.heap := ⟨_, rfl⟩
  have hP : va_P D vwCl (wCc xCc cI cZ xGo xFo xPk xSk xAi xSh xJo gGo gFo gPk qPk gSk gAi gSh gJo ++ ([(xo, .inl (cJ, 1, .inr (.inl q)))] : va_W)) H := by rw [hH]; exact hP
  have hS : va_S A s.heap H [] := by rw [hH]; exact hS
  rw [show W p l e rm_La_lag s m args below meth c s.heap = W p l e rm_La_lag s m args below meth c H by rw [hH]]
  generalize ([] : List Loc) = locs at hS ⊢
  refine lv_aload_n hx hb d_La_lag_0 rfl (lv_at hl 2 rfl) ?_
  refine lv_iconst (v := 0) hx hb d_La_lag_1 (by decide) ?_
  refine lv_aload_n hx hb d_La_lag_2 rfl (lv_at hl 0 rfl) ?_
  refine lv_iload_n hx hb d_La_lag_3 rfl (lv_at hl 1 rfl) ?_
  rcases List.mem_cons.mp hEk with hq | hEk
  · obtain ⟨rfl, rfl⟩ := Prod.mk.inj hq
    refine x_got C0 hP hD hS [0, 1, 2, 3, 4, 5, 6, 7, 8, 9, 10, 11, 12, 13, 14, 15, 16, 17, 18, 19, 20, 21, 22, 23, 24, 25, 26, 27] cc_C rfl (rp_same cc_C) (rV (As := [.int p1]) (rest := [.int 0, .ref xo]) C0 hP hD hS hl.1 [0, 1, 2, 3, 4, 5, 6, 7, 8, 9, 10, 11, 12, 13, 14, 15, 16, 17, 18, 19, 20, 21, 22, 23, 24, 25, 26, 27] (c_Cc_lag_t l hltr D cI cZ cJ xCc xGo xFo xPk xSk xAi xSh xJo H.size gGo gFo gPk qPk gSk gAi gSh gJo p1 xIAE h) k_Cc_lag m_586 rfl rfl cc_C rfl ⟨by decide, by decide⟩ ⟨rfl, rfl⟩ rfl (Nat.le_of_ble_eq_true rfl) d_La_lag_4 ⟨by decide, by decide⟩) (pre := []) (x := ⟨0, 9, 12, 15⟩) (suf := []) (htb.trans rfl) (fun z hz => absurd hz List.not_mem_nil) (by decide) (by decide) m_232 (by decide) (fun q9 H locs hP hD hS => ?_)
    refine lv_astore_n (lv' := [(3, .ref q9), (0, .ref xCc), (1, .int p1), (2, .ref xo)]) hx hb d_La_lag_12 rfl hl (by decide) rfl (fun ls hl => ?_)
    refine lv_iconst (v := 1) hx hb d_La_lag_13 (by decide) ?_
    exact mw_ret C0 hr hlk hP hD hS (Nat.le_refl _) (Nat.le_refl _) d_La_lag_14
  exact absurd hEk List.not_mem_nil
abbrev rm_La_climate : Room := { frames := 9, cells := 1, slots := 6, locals := 148 }
set_option maxRecDepth 100000 in
set_option maxHeartbeats 4000000 in
theorem w_climate_r (l : Launch) (D : va_G) (cI cZ cJ : ClassId) (xCc : Nat) (xGo : Nat → Nat) (xFo : Nat → Nat) (xPk : Nat → Nat) (xSk : Nat → Nat) (xAi : Nat → Nat) (xSh : Nat → Nat) (xJo : Nat → Nat) (xo sz : Nat) (gGo : St) (gFo : St) (gPk : St) (qPk : Int64) (gSk : St) (gAi : St) (gSh : St) (gJo : St) (q : Nat → Int64) (p1 : Int32) (r : Int32) (gAi1 : St) (h : f_Cc_climate gGo gFo gPk qPk gSk gAi gSh gJo p1 = some (.inl (r, gAi1))) : MW l y_La_climate b_La_climate 4 [(0, 9, 12, 13), (0, 9, 15, 15)] rm_La_climate D (TYS cI cZ cJ) [.ref xCc, .int p1, .ref xo] (wCc xCc cI cZ xGo xFo xPk xSk xAi xSh xJo gGo gFo gPk qPk gSk gAi gSh gJo ++ ([(xo, .inl (cJ, 1, .inr (.inl q)))] : va_W)) sz 0 (wCc xCc cI cZ xGo xFo xPk xSk xAi xSh xJo gGo gFo gPk qPk gSk gAi1 gSh gJo ++ ([(xo, .inl (cJ, 1, .inr (.inl (vp_updL q (0 : Int32).toNatClampNeg (r.toInt64)))))] : va_W)) := by
  refine mw_start (own := R_La) (by decide +kernel) rfl (Nat.le_of_ble_eq_true rfl) (fun p e s m args below meth c A ls C0 hr hlk htb hP hD hS hl => ?_)
  obtain ⟨hx, hb, -, hown, hts, hK, hE, -⟩ := id C0
  have hl : lv_has ls 4 [(0, .ref xCc), (1, .int p1), (2, .ref xo)] := hl
  obtain ⟨H, hH⟩ : ∃ H, H = s.heap := ⟨_, rfl⟩
  have hP : va_P D vwCl (wCc xCc cI cZ xGo xFo xPk xSk xAi xSh xJo gGo gFo gPk qPk gSk gAi gSh gJo ++ ([(xo, .inl (cJ, 1, .inr (.inl q)))] : va_W)) H := by rw [hH]; exact hP
  have hS : va_S A s.heap H [] := by rw [hH]; exact hS
  rw [show W p l e rm_La_climate s m args below meth c s.heap = W p l e rm_La_climate s m args below meth c H by rw [hH]]
  generalize ([] : List Loc) = locs at hS ⊢
  refine lv_aload_n hx hb d_La_climate_0 rfl (lv_at hl 2 rfl) ?_
  refine lv_iconst (v := 0) hx hb d_La_climate_1 (by decide) ?_
  refine lv_aload_n hx hb d_La_climate_2 rfl (lv_at hl 0 rfl) ?_
  refine lv_iload_n hx hb d_La_climate_3 rfl (lv_at hl 1 rfl) ?_
  refine cVi (ws' := wCc xCc cI cZ xGo xFo xPk xSk xAi xSh xJo gGo gFo gPk qPk gSk gAi1 gSh gJo ++ ([(xo, .inl (cJ, 1, .inr (.inl q)))] : va_W)) (As := [.int p1]) (rest := [.int 0, .ref xo]) C0 hP hD hS hl.1 [0, 1, 2, 3, 4, 5, 6, 7, 8, 9, 10, 11, 12, 13, 14, 15, 16, 17, 18, 19, 20, 21, 22, 23, 24, 25, 26, 27] (c_Cc_climate_r l D cI cZ cJ xCc xGo xFo xPk xSk xAi xSh xJo H.size gGo gFo gPk qPk gSk gAi gSh gJo p1 r gAi1 h) k_Cc_climate m_598 rfl rfl cc_C rfl cc_w cc_rp ⟨by decide, by decide⟩ ⟨rfl, rfl⟩ rfl (Nat.le_of_ble_eq_true rfl) d_La_climate_4 ⟨Nat.zero_le _, Nat.zero_le _⟩ (fun H locs hP hD hS => ?_)
  refine lv_i2l (v := r.toInt64) hx hb d_La_climate_7 rfl ?_
  refine va_last hx hb hK hP hD hS 28 2 rfl rfl (inb_in (by decide)) d_La_climate_8 (fun H locs hP hD hS => ?_)
  rw [cc_o] at hP hD
  refine lv_goto (tgt := 18) hx hb d_La_climate_9 (by decide) ?_
  refine lv_iconst (v := 0) hx hb d_La_climate_18 (by decide) ?_
  exact mw_ret C0 hr hlk hP hD hS (by decide) (by decide) d_La_climate_19
set_option maxRecDepth 100000 in
set_option maxHeartbeats 4000000 in
theorem w_climate_t (l : Launch) (D : va_G) (cI cZ cJ : ClassId) (xCc : Nat) (xGo : Nat → Nat) (xFo : Nat → Nat) (xPk : Nat → Nat) (xSk : Nat → Nat) (xAi : Nat → Nat) (xSh : Nat → Nat) (xJo : Nat → Nat) (xo sz : Nat) (gGo : St) (gFo : St) (gPk : St) (qPk : Int64) (gSk : St) (gAi : St) (gSh : St) (gJo : St) (q : Nat → Int64) (p1 : Int32) (hltr : l.stackTraces = false) (E : String) (k : Int32) (hEk : (E, k) ∈ [(xISE, 1), (xIAE, 2)]) (h : f_Cc_climate gGo gFo gPk qPk gSk gAi gSh gJo p1 = some (.inr E)) : MW l y_La_climate b_La_climate 4 [(0, 9, 12, 13), (0, 9, 15, 15)] rm_La_climate D (TYS cI cZ cJ) [.ref xCc, .int p1, .ref xo] (wCc xCc cI cZ xGo xFo xPk xSk xAi xSh xJo gGo gFo gPk qPk gSk gAi gSh gJo ++ ([(xo, .inl (cJ, 1, .inr (.inl q)))] : va_W)) sz k (wCc xCc cI cZ xGo xFo xPk xSk xAi xSh xJo gGo gFo gPk qPk gSk gAi gSh gJo ++ ([(xo, .inl (cJ, 1, .inr (.inl q)))] : va_W)) := by
  refine mw_start (own := R_La) (by decide +kernel) rfl (Nat.le_of_ble_eq_true rfl) (fun p e s m args below meth c A ls C0 hr hlk htb hP hD hS hl => ?_)
  obtain ⟨hx, hb, -, hown, hts, hK, hE, -⟩ := id C0
  have hl : lv_has ls 4 [(0, .ref xCc), (1, .int p1), (2, .ref xo)] := hl
  obtain ⟨H, hH⟩ : ∃ H, H = s.heap := ⟨_, rfl⟩
  have hP : va_P D vwCl (wCc xCc cI cZ xGo xFo xPk xSk xAi xSh xJo gGo gFo gPk qPk gSk gAi gSh gJo ++ ([(xo, .inl (cJ, 1, .inr (.inl q)))] : va_W)) H := by rw [hH]; exact hP
  have hS : va_S A s.heap H [] := by rw [hH]; exact hS
  rw [show W p l e rm_La_climate s m args below meth c s.heap = W p l e rm_La_climate s m args below meth c H by rw [hH]]
  generalize ([] : List Loc) = locs at hS ⊢
  refine lv_aload_n hx hb d_La_climate_0 rfl (lv_at hl 2 rfl) ?_
  refine lv_iconst (v := 0) hx hb d_La_climate_1 (by decide) ?_
  refine lv_aload_n hx hb d_La_climate_2 rfl (lv_at hl 0 rfl) ?_
  refine lv_iload_n hx hb d_La_climate_3 rfl (lv_at hl 1 rfl) ?_
  rcases List.mem_cons.mp hEk with hq | hEk
  · obtain ⟨rfl, rfl⟩ := Prod.mk.inj hq
    refine x_got C0 hP hD hS [0, 1, 2, 3, 4, 5, 6, 7, 8, 9, 10, 11, 12, 13, 14, 15, 16, 17, 18, 19, 20, 21, 22, 23, 24, 25, 26, 27] cc_C rfl (rp_same cc_C) (rV (As := [.int p1]) (rest := [.int 0, .ref xo]) C0 hP hD hS hl.1 [0, 1, 2, 3, 4, 5, 6, 7, 8, 9, 10, 11, 12, 13, 14, 15, 16, 17, 18, 19, 20, 21, 22, 23, 24, 25, 26, 27] (c_Cc_climate_t l hltr D cI cZ cJ xCc xGo xFo xPk xSk xAi xSh xJo H.size gGo gFo gPk qPk gSk gAi gSh gJo p1 xISE h) k_Cc_climate m_598 rfl rfl cc_C rfl ⟨by decide, by decide⟩ ⟨rfl, rfl⟩ rfl (Nat.le_of_ble_eq_true rfl) d_La_climate_4 ⟨by decide, by decide⟩) (pre := []) (x := ⟨0, 9, 12, 13⟩) (suf := [⟨0, 9, 15, 15⟩]) (htb.trans rfl) (fun z hz => absurd hz List.not_mem_nil) (by decide) (by decide) m_231 (by decide) (fun q9 H locs hP hD hS => ?_)
    refine lv_astore_n (lv' := [(3, .ref q9), (0, .ref xCc), (1, .int p1), (2, .ref xo)]) hx hb d_La_climate_12 rfl hl (by decide) rfl (fun ls hl => ?_)
    refine lv_iconst (v := 1) hx hb d_La_climate_13 (by decide) ?_
    exact mw_ret C0 hr hlk hP hD hS (Nat.le_refl _) (Nat.le_refl _) d_La_climate_14
  rcases List.mem_cons.mp hEk with hq | hEk
  · obtain ⟨rfl, rfl⟩ := Prod.mk.inj hq
    refine x_got C0 hP hD hS [0, 1, 2, 3, 4, 5, 6, 7, 8, 9, 10, 11, 12, 13, 14, 15, 16, 17, 18, 19, 20, 21, 22, 23, 24, 25, 26, 27] cc_C rfl (rp_same cc_C) (rV (As := [.int p1]) (rest := [.int 0, .ref xo]) C0 hP hD hS hl.1 [0, 1, 2, 3, 4, 5, 6, 7, 8, 9, 10, 11, 12, 13, 14, 15, 16, 17, 18, 19, 20, 21, 22, 23, 24, 25, 26, 27] (c_Cc_climate_t l hltr D cI cZ cJ xCc xGo xFo xPk xSk xAi xSh xJo H.size gGo gFo gPk qPk gSk gAi gSh gJo p1 xIAE h) k_Cc_climate m_598 rfl rfl cc_C rfl ⟨by decide, by decide⟩ ⟨rfl, rfl⟩ rfl (Nat.le_of_ble_eq_true rfl) d_La_climate_4 ⟨by decide, by decide⟩) (pre := [⟨0, 9, 12, 13⟩]) (x := ⟨0, 9, 15, 15⟩) (suf := []) (htb.trans rfl) (List.forall_mem_cons.mpr ⟨⟨by decide, _, m_231, by decide⟩, fun z hz => absurd hz List.not_mem_nil⟩) (by decide) (by decide) m_232 (by decide) (fun q9 H locs hP hD hS => ?_)
    refine lv_astore_n (lv' := [(3, .ref q9), (0, .ref xCc), (1, .int p1), (2, .ref xo)]) hx hb d_La_climate_15 rfl hl (by decide) rfl (fun ls hl => ?_)
    refine lv_iconst (v := 2) hx hb d_La_climate_16 (by decide) ?_
    exact mw_ret C0 hr hlk hP hD hS (Nat.le_refl _) (Nat.le_refl _) d_La_climate_17
  exact absurd hEk List.not_mem_nil
abbrev rm_La_inside : Room := { frames := 9, cells := 1, slots := 6, locals := 145 }
set_option maxRecDepth 100000 in
set_option maxHeartbeats 4000000 in
theorem w_inside_r (l : Launch) (D : va_G) (cI cZ cJ : ClassId) (xCc : Nat) (xGo : Nat → Nat) (xFo : Nat → Nat) (xPk : Nat → Nat) (xSk : Nat → Nat) (xAi : Nat → Nat) (xSh : Nat → Nat) (xJo : Nat → Nat) (xo sz : Nat) (gGo : St) (gFo : St) (gPk : St) (qPk : Int64) (gSk : St) (gAi : St) (gSh : St) (gJo : St) (q : Nat → Int64) (p1 : Int32) (r : Int32)  (h : f_Cc_inside gGo gFo gPk qPk gSk gAi gSh gJo p1 = some (.inl r)) : MW l y_La_inside b_La_inside 4 [(0, 9, 12, 21)] rm_La_inside D (TYS cI cZ cJ) [.ref xCc, .int p1, .ref xo] (wCc xCc cI cZ xGo xFo xPk xSk xAi xSh xJo gGo gFo gPk qPk gSk gAi gSh gJo ++ ([(xo, .inl (cJ, 1, .inr (.inl q)))] : va_W)) sz 0 (wCc xCc cI cZ xGo xFo xPk xSk xAi xSh xJo gGo gFo gPk qPk gSk gAi gSh gJo ++ ([(xo, .inl (cJ, 1, .inr (.inl (vp_updL q (0 : Int32).toNatClampNeg (r.toInt64)))))] : va_W)) := by
  refine mw_start (own := R_La) (by decide +kernel) rfl (Nat.le_of_ble_eq_true rfl) (fun p e s m args below meth c A ls C0 hr hlk htb hP hD hS hl => ?_)
  obtain ⟨hx, hb, -, hown, hts, hK, hE, -⟩ := id C0
  have hl : lv_has ls 4 [(0, .ref xCc), (1, .int p1), (2, .ref xo)] := hl
  obtain ⟨H, hH⟩ : ∃ H, H = s.heap := ⟨_, rfl⟩
  have hP : va_P D vwCl (wCc xCc cI cZ xGo xFo xPk xSk xAi xSh xJo gGo gFo gPk qPk gSk gAi gSh gJo ++ ([(xo, .inl (cJ, 1, .inr (.inl q)))] : va_W)) H := by rw [hH]; exact hP
  have hS : va_S A s.heap H [] := by rw [hH]; exact hS
  rw [show W p l e rm_La_inside s m args below meth c s.heap = W p l e rm_La_inside s m args below meth c H by rw [hH]]
  generalize ([] : List Loc) = locs at hS ⊢
  refine lv_aload_n hx hb d_La_inside_0 rfl (lv_at hl 2 rfl) ?_
  refine lv_iconst (v := 0) hx hb d_La_inside_1 (by decide) ?_
  refine lv_aload_n hx hb d_La_inside_2 rfl (lv_at hl 0 rfl) ?_
  refine lv_iload_n hx hb d_La_inside_3 rfl (lv_at hl 1 rfl) ?_
  refine cVi (ws' := wCc xCc cI cZ xGo xFo xPk xSk xAi xSh xJo gGo gFo gPk qPk gSk gAi gSh gJo ++ ([(xo, .inl (cJ, 1, .inr (.inl q)))] : va_W)) (As := [.int p1]) (rest := [.int 0, .ref xo]) C0 hP hD hS hl.1 [0, 1, 2, 3, 4, 5, 6, 7, 8, 9, 10, 11, 12, 13, 14, 15, 16, 17, 18, 19, 20, 21, 22, 23, 24, 25, 26, 27] (c_Cc_inside_r l D cI cZ cJ xCc xGo xFo xPk xSk xAi xSh xJo H.size gGo gFo gPk qPk gSk gAi gSh gJo p1 r h) k_Cc_inside m_614 rfl rfl cc_C rfl cc_w cc_rp ⟨by decide, by decide⟩ ⟨rfl, rfl⟩ rfl (Nat.le_of_ble_eq_true rfl) d_La_inside_4 ⟨Nat.zero_le _, Nat.zero_le _⟩ (fun H locs hP hD hS => ?_)
  refine lv_i2l (v := r.toInt64) hx hb d_La_inside_7 rfl ?_
  refine va_last hx hb hK hP hD hS 28 2 rfl rfl (inb_in (by decide)) d_La_inside_8 (fun H locs hP hD hS => ?_)
  rw [cc_o] at hP hD
  refine lv_goto (tgt := 15) hx hb d_La_inside_9 (by decide) ?_
  refine lv_iconst (v := 0) hx hb d_La_inside_15 (by decide) ?_
  exact mw_ret C0 hr hlk hP hD hS (by decide) (by decide) d_La_inside_16
set_option maxRecDepth 100000 in
set_option maxHeartbeats 4000000 in
theorem w_inside_t (l : Launch) (D : va_G) (cI cZ cJ : ClassId) (xCc : Nat) (xGo : Nat → Nat) (xFo : Nat → Nat) (xPk : Nat → Nat) (xSk : Nat → Nat) (xAi : Nat → Nat) (xSh : Nat → Nat) (xJo : Nat → Nat) (xo sz : Nat) (gGo : St) (gFo : St) (gPk : St) (qPk : Int64) (gSk : St) (gAi : St) (gSh : St) (gJo : St) (q : Nat → Int64) (p1 : Int32) (hltr : l.stackTraces = false) (E : String) (k : Int32) (hEk : (E, k) ∈ [(xIOE, 1)]) (h : f_Cc_inside gGo gFo gPk qPk gSk gAi gSh gJo p1 = some (.inr E)) : MW l y_La_inside b_La_inside 4 [(0, 9, 12, 21)] rm_La_inside D (TYS cI cZ cJ) [.ref xCc, .int p1, .ref xo] (wCc xCc cI cZ xGo xFo xPk xSk xAi xSh xJo gGo gFo gPk qPk gSk gAi gSh gJo ++ ([(xo, .inl (cJ, 1, .inr (.inl q)))] : va_W)) sz k (wCc xCc cI cZ xGo xFo xPk xSk xAi xSh xJo gGo gFo gPk qPk gSk gAi gSh gJo ++ ([(xo, .inl (cJ, 1, .inr (.inl q)))] : va_W)) := by
  refine mw_start (own := R_La) (by decide +kernel) rfl (Nat.le_of_ble_eq_true rfl) (fun p e s m args below meth c A ls C0 hr hlk htb hP hD hS hl => ?_)
  obtain ⟨hx, hb, -, hown, hts, hK, hE, -⟩ := id C0
  have hl : lv_has ls 4 [(0, .ref xCc), (1, .int p1), (2, .ref xo)] := hl
  obtain ⟨H, hH⟩ : ∃ H, H = s.heap := ⟨_, rfl⟩
  have hP : va_P D vwCl (wCc xCc cI cZ xGo xFo xPk xSk xAi xSh xJo gGo gFo gPk qPk gSk gAi gSh gJo ++ ([(xo, .inl (cJ, 1, .inr (.inl q)))] : va_W)) H := by rw [hH]; exact hP
  have hS : va_S A s.heap H [] := by rw [hH]; exact hS
  rw [show W p l e rm_La_inside s m args below meth c s.heap = W p l e rm_La_inside s m args below meth c H by rw [hH]]
  generalize ([] : List Loc) = locs at hS ⊢
  refine lv_aload_n hx hb d_La_inside_0 rfl (lv_at hl 2 rfl) ?_
  refine lv_iconst (v := 0) hx hb d_La_inside_1 (by decide) ?_
  refine lv_aload_n hx hb d_La_inside_2 rfl (lv_at hl 0 rfl) ?_
  refine lv_iload_n hx hb d_La_inside_3 rfl (lv_at hl 1 rfl) ?_
  rcases List.mem_cons.mp hEk with hq | hEk
  · obtain ⟨rfl, rfl⟩ := Prod.mk.inj hq
    refine x_got C0 hP hD hS [0, 1, 2, 3, 4, 5, 6, 7, 8, 9, 10, 11, 12, 13, 14, 15, 16, 17, 18, 19, 20, 21, 22, 23, 24, 25, 26, 27] cc_C rfl (rp_same cc_C) (rV (As := [.int p1]) (rest := [.int 0, .ref xo]) C0 hP hD hS hl.1 [0, 1, 2, 3, 4, 5, 6, 7, 8, 9, 10, 11, 12, 13, 14, 15, 16, 17, 18, 19, 20, 21, 22, 23, 24, 25, 26, 27] (c_Cc_inside_t l hltr D cI cZ cJ xCc xGo xFo xPk xSk xAi xSh xJo H.size gGo gFo gPk qPk gSk gAi gSh gJo p1 xIOE h) k_Cc_inside m_614 rfl rfl cc_C rfl ⟨by decide, by decide⟩ ⟨rfl, rfl⟩ rfl (Nat.le_of_ble_eq_true rfl) d_La_inside_4 ⟨by decide, by decide⟩) (pre := []) (x := ⟨0, 9, 12, 21⟩) (suf := []) (htb.trans rfl) (fun z hz => absurd hz List.not_mem_nil) (by decide) (by decide) m_335 (by decide) (fun q9 H locs hP hD hS => ?_)
    refine lv_astore_n (lv' := [(3, .ref q9), (0, .ref xCc), (1, .int p1), (2, .ref xo)]) hx hb d_La_inside_12 rfl hl (by decide) rfl (fun ls hl => ?_)
    refine lv_iconst (v := 1) hx hb d_La_inside_13 (by decide) ?_
    exact mw_ret C0 hr hlk hP hD hS (Nat.le_refl _) (Nat.le_refl _) d_La_inside_14
  exact absurd hEk List.not_mem_nil
abbrev rm_La_steady : Room := { frames := 8, cells := 1, slots := 6, locals := 130 }
set_option maxRecDepth 100000 in
set_option maxHeartbeats 4000000 in
theorem w_steady_r (l : Launch) (D : va_G) (cI cZ cJ : ClassId) (xCc : Nat) (xGo : Nat → Nat) (xFo : Nat → Nat) (xPk : Nat → Nat) (xSk : Nat → Nat) (xAi : Nat → Nat) (xSh : Nat → Nat) (xJo : Nat → Nat) (xo sz : Nat) (gGo : St) (gFo : St) (gPk : St) (qPk : Int64) (gSk : St) (gAi : St) (gSh : St) (gJo : St) (q : Nat → Int64) (p1 : Int32) (p2 : Int32) (r : Int32)  (h : f_Cc_steady gGo gFo gPk qPk gSk gAi gSh gJo p1 p2 = some (.inl r)) : MW l y_La_steady b_La_steady 5 [(0, 10, 13, 15)] rm_La_steady D (TYS cI cZ cJ) [.ref xCc, .int p1, .int p2, .ref xo] (wCc xCc cI cZ xGo xFo xPk xSk xAi xSh xJo gGo gFo gPk qPk gSk gAi gSh gJo ++ ([(xo, .inl (cJ, 1, .inr (.inl q)))] : va_W)) sz 0 (wCc xCc cI cZ xGo xFo xPk xSk xAi xSh xJo gGo gFo gPk qPk gSk gAi gSh gJo ++ ([(xo, .inl (cJ, 1, .inr (.inl (vp_updL q (0 : Int32).toNatClampNeg (r.toInt64)))))] : va_W)) := by
  refine mw_start (own := R_La) (by decide +kernel) rfl (Nat.le_of_ble_eq_true rfl) (fun p e s m args below meth c A ls C0 hr hlk htb hP hD hS hl => ?_)
  obtain ⟨hx, hb, -, hown, hts, hK, hE, -⟩ := id C0
  have hl : lv_has ls 5 [(0, .ref xCc), (1, .int p1), (2, .int p2), (3, .ref xo)] := hl
  obtain ⟨H, hH⟩ : ∃ H, H = s.heap := ⟨_, rfl⟩
  have hP : va_P D vwCl (wCc xCc cI cZ xGo xFo xPk xSk xAi xSh xJo gGo gFo gPk qPk gSk gAi gSh gJo ++ ([(xo, .inl (cJ, 1, .inr (.inl q)))] : va_W)) H := by rw [hH]; exact hP
  have hS : va_S A s.heap H [] := by rw [hH]; exact hS
  rw [show W p l e rm_La_steady s m args below meth c s.heap = W p l e rm_La_steady s m args below meth c H by rw [hH]]
  generalize ([] : List Loc) = locs at hS ⊢
  refine lv_aload_n hx hb d_La_steady_0 rfl (lv_at hl 3 rfl) ?_
  refine lv_iconst (v := 0) hx hb d_La_steady_1 (by decide) ?_
  refine lv_aload_n hx hb d_La_steady_2 rfl (lv_at hl 0 rfl) ?_
  refine lv_iload_n hx hb d_La_steady_3 rfl (lv_at hl 1 rfl) ?_
  refine lv_iload_n hx hb d_La_steady_4 rfl (lv_at hl 2 rfl) ?_
  refine cVi (ws' := wCc xCc cI cZ xGo xFo xPk xSk xAi xSh xJo gGo gFo gPk qPk gSk gAi gSh gJo ++ ([(xo, .inl (cJ, 1, .inr (.inl q)))] : va_W)) (As := [.int p1, .int p2]) (rest := [.int 0, .ref xo]) C0 hP hD hS hl.1 [0, 1, 2, 3, 4, 5, 6, 7, 8, 9, 10, 11, 12, 13, 14, 15, 16, 17, 18, 19, 20, 21, 22, 23, 24, 25, 26, 27] (c_Cc_steady_r l D cI cZ cJ xCc xGo xFo xPk xSk xAi xSh xJo H.size gGo gFo gPk qPk gSk gAi gSh gJo p1 p2 r h) k_Cc_steady m_626 rfl rfl cc_C rfl cc_w cc_rp ⟨by decide, by decide⟩ ⟨rfl, rfl⟩ rfl (Nat.le_of_ble_eq_true rfl) d_La_steady_5 ⟨Nat.zero_le _, Nat.zero_le _⟩ (fun H locs hP hD hS => ?_)
  refine lv_i2l (v := r.toInt64) hx hb d_La_steady_8 rfl ?_
  refine va_last hx hb hK hP hD hS 28 2 rfl rfl (inb_in (by decide)) d_La_steady_9 (fun H locs hP hD hS => ?_)
  rw [cc_o] at hP hD
  refine lv_goto (tgt := 17) hx hb d_La_steady_10 (by decide) ?_
  refine lv_iconst (v := 0) hx hb d_La_steady_17 (by decide) ?_
  exact mw_ret C0 hr hlk hP hD hS (by decide) (by decide) d_La_steady_18
set_option maxRecDepth 100000 in
set_option maxHeartbeats 4000000 in
theorem w_steady_t (l : Launch) (D : va_G) (cI cZ cJ : ClassId) (xCc : Nat) (xGo : Nat → Nat) (xFo : Nat → Nat) (xPk : Nat → Nat) (xSk : Nat → Nat) (xAi : Nat → Nat) (xSh : Nat → Nat) (xJo : Nat → Nat) (xo sz : Nat) (gGo : St) (gFo : St) (gPk : St) (qPk : Int64) (gSk : St) (gAi : St) (gSh : St) (gJo : St) (q : Nat → Int64) (p1 : Int32) (p2 : Int32) (hltr : l.stackTraces = false) (E : String) (k : Int32) (hEk : (E, k) ∈ [(xIAE, 1)]) (h : f_Cc_steady gGo gFo gPk qPk gSk gAi gSh gJo p1 p2 = some (.inr E)) : MW l y_La_steady b_La_steady 5 [(0, 10, 13, 15)] rm_La_steady D (TYS cI cZ cJ) [.ref xCc, .int p1, .int p2, .ref xo] (wCc xCc cI cZ xGo xFo xPk xSk xAi xSh xJo gGo gFo gPk qPk gSk gAi gSh gJo ++ ([(xo, .inl (cJ, 1, .inr (.inl q)))] : va_W)) sz k (wCc xCc cI cZ xGo xFo xPk xSk xAi xSh xJo gGo gFo gPk qPk gSk gAi gSh gJo ++ ([(xo, .inl (cJ, 1, .inr (.inl q)))] : va_W)) := by
  refine mw_start (own := R_La) (by decide +kernel) rfl (Nat.le_of_ble_eq_true rfl) (fun p e s m args below meth c A ls C0 hr hlk htb hP hD hS hl => ?_)
  obtain ⟨hx, hb, -, hown, hts, hK, hE, -⟩ := id C0
  have hl : lv_has ls 5 [(0, .ref xCc), (1, .int p1), (2, .int p2), (3, .ref xo)] := hl
  obtain ⟨H, hH⟩ : ∃ H, H = s.heap := ⟨_, rfl⟩
  have hP : va_P D vwCl (wCc xCc cI cZ xGo xFo xPk xSk xAi xSh xJo gGo gFo gPk qPk gSk gAi gSh gJo ++ ([(xo, .inl (cJ, 1, .inr (.inl q)))] : va_W)) H := by rw [hH]; exact hP
  have hS : va_S A s.heap H [] := by rw [hH]; exact hS
  rw [show W p l e rm_La_steady s m args below meth c s.heap = W p l e rm_La_steady s m args below meth c H by rw [hH]]
  generalize ([] : List Loc) = locs at hS ⊢
  refine lv_aload_n hx hb d_La_steady_0 rfl (lv_at hl 3 rfl) ?_
  refine lv_iconst (v := 0) hx hb d_La_steady_1 (by decide) ?_
  refine lv_aload_n hx hb d_La_steady_2 rfl (lv_at hl 0 rfl) ?_
  refine lv_iload_n hx hb d_La_steady_3 rfl (lv_at hl 1 rfl) ?_
  refine lv_iload_n hx hb d_La_steady_4 rfl (lv_at hl 2 rfl) ?_
  rcases List.mem_cons.mp hEk with hq | hEk
  · obtain ⟨rfl, rfl⟩ := Prod.mk.inj hq
    refine x_got C0 hP hD hS [0, 1, 2, 3, 4, 5, 6, 7, 8, 9, 10, 11, 12, 13, 14, 15, 16, 17, 18, 19, 20, 21, 22, 23, 24, 25, 26, 27] cc_C rfl (rp_same cc_C) (rV (As := [.int p1, .int p2]) (rest := [.int 0, .ref xo]) C0 hP hD hS hl.1 [0, 1, 2, 3, 4, 5, 6, 7, 8, 9, 10, 11, 12, 13, 14, 15, 16, 17, 18, 19, 20, 21, 22, 23, 24, 25, 26, 27] (c_Cc_steady_t l hltr D cI cZ cJ xCc xGo xFo xPk xSk xAi xSh xJo H.size gGo gFo gPk qPk gSk gAi gSh gJo p1 p2 xIAE h) k_Cc_steady m_626 rfl rfl cc_C rfl ⟨by decide, by decide⟩ ⟨rfl, rfl⟩ rfl (Nat.le_of_ble_eq_true rfl) d_La_steady_5 ⟨by decide, by decide⟩) (pre := []) (x := ⟨0, 10, 13, 15⟩) (suf := []) (htb.trans rfl) (fun z hz => absurd hz List.not_mem_nil) (by decide) (by decide) m_232 (by decide) (fun q9 H locs hP hD hS => ?_)
    refine lv_astore (lv' := [(4, .ref q9), (0, .ref xCc), (1, .int p1), (2, .int p2), (3, .ref xo)]) hx hb d_La_steady_13 hl (by decide) rfl (fun ls hl => ?_)
    refine lv_iconst (v := 1) hx hb d_La_steady_15 (by decide) ?_
    exact mw_ret C0 hr hlk hP hD hS (Nat.le_refl _) (Nat.le_refl _) d_La_steady_16
  exact absurd hEk List.not_mem_nil
abbrev rm_La_limit : Room := { frames := 9, cells := 1, slots := 6, locals := 148 }
set_option maxRecDepth 100000 in
set_option maxHeartbeats 4000000 in
theorem w_limit_r (l : Launch) (D : va_G) (cI cZ cJ : ClassId) (xCc : Nat) (xGo : Nat → Nat) (xFo : Nat → Nat) (xPk : Nat → Nat) (xSk : Nat → Nat) (xAi : Nat → Nat) (xSh : Nat → Nat) (xJo : Nat → Nat) (xo sz : Nat) (gGo : St) (gFo : St) (gPk : St) (qPk : Int64) (gSk : St) (gAi : St) (gSh : St) (gJo : St) (q : Nat → Int64) (p1 : Int32) (p2 : Int32)  (gSh1 : St) (h : f_Cc_limit gGo gFo gPk qPk gSk gAi gSh gJo p1 p2 = some (.inl gSh1)) : MW l y_La_limit b_La_limit 4 [(0, 6, 9, 15)] rm_La_limit D (TYS cI cZ cJ) [.ref xCc, .int p1, .int p2] (wCc xCc cI cZ xGo xFo xPk xSk xAi xSh xJo gGo gFo gPk qPk gSk gAi gSh gJo ++ ([(xo, .inl (cJ, 1, .inr (.inl q)))] : va_W)) sz 0 (wCc xCc cI cZ xGo xFo xPk xSk xAi xSh xJo gGo gFo gPk qPk gSk gAi gSh1 gJo ++ ([(xo, .inl (cJ, 1, .inr (.inl q)))] : va_W)) := by
  refine mw_start (own := R_La) (by decide +kernel) rfl (Nat.le_of_ble_eq_true rfl) (fun p e s m args below meth c A ls C0 hr hlk htb hP hD hS hl => ?_)
  obtain ⟨hx, hb, -, hown, hts, hK, hE, -⟩ := id C0
  have hl : lv_has ls 4 [(0, .ref xCc), (1, .int p1), (2, .int p2)] := hl
  obtain ⟨H, hH⟩ : ∃ H, H = s.heap := ⟨_, rfl⟩
  have hP : va_P D vwCl (wCc xCc cI cZ xGo xFo xPk xSk xAi xSh xJo gGo gFo gPk qPk gSk gAi gSh gJo ++ ([(xo, .inl (cJ, 1, .inr (.inl q)))] : va_W)) H := by rw [hH]; exact hP
  have hS : va_S A s.heap H [] := by rw [hH]; exact hS
  rw [show W p l e rm_La_limit s m args below meth c s.heap = W p l e rm_La_limit s m args below meth c H by rw [hH]]
  generalize ([] : List Loc) = locs at hS ⊢
  refine lv_aload_n hx hb d_La_limit_0 rfl (lv_at hl 0 rfl) ?_
  refine lv_iload_n hx hb d_La_limit_1 rfl (lv_at hl 1 rfl) ?_
  refine lv_iload_n hx hb d_La_limit_2 rfl (lv_at hl 2 rfl) ?_
  refine cVv (ws' := wCc xCc cI cZ xGo xFo xPk xSk xAi xSh xJo gGo gFo gPk qPk gSk gAi gSh1 gJo ++ ([(xo, .inl (cJ, 1, .inr (.inl q)))] : va_W)) (As := [.int p1, .int p2]) (rest := []) C0 hP hD hS hl.1 [0, 1, 2, 3, 4, 5, 6, 7, 8, 9, 10, 11, 12, 13, 14, 15, 16, 17, 18, 19, 20, 21, 22, 23, 24, 25, 26, 27] (c_Cc_limit_r l D cI cZ cJ xCc xGo xFo xPk xSk xAi xSh xJo H.size gGo gFo gPk qPk gSk gAi gSh gJo p1 p2 gSh1 h) k_Cc_limit m_640 rfl rfl cc_C rfl cc_w cc_rp ⟨by decide, by decide⟩ ⟨rfl, rfl⟩ rfl (Nat.le_of_ble_eq_true rfl) d_La_limit_3 ⟨Nat.zero_le _, Nat.zero_le _⟩ (fun H locs hP hD hS => ?_)
  refine lv_goto (tgt := 12) hx hb d_La_limit_6 (by decide) ?_
  refine lv_iconst (v := 0) hx hb d_La_limit_12 (by decide) ?_
  exact mw_ret C0 hr hlk hP hD hS (by decide) (by decide) d_La_limit_13
set_option maxRecDepth 100000 in
set_option maxHeartbeats 4000000 in
theorem w_limit_t (l : Launch) (D : va_G) (cI cZ cJ : ClassId) (xCc : Nat) (xGo : Nat → Nat) (xFo : Nat → Nat) (xPk : Nat → Nat) (xSk : Nat → Nat) (xAi : Nat → Nat) (xSh : Nat → Nat) (xJo : Nat → Nat) (xo sz : Nat) (gGo : St) (gFo : St) (gPk : St) (qPk : Int64) (gSk : St) (gAi : St) (gSh : St) (gJo : St) (q : Nat → Int64) (p1 : Int32) (p2 : Int32) (hltr : l.stackTraces = false) (E : String) (k : Int32) (hEk : (E, k) ∈ [(xIAE, 1)]) (h : f_Cc_limit gGo gFo gPk qPk gSk gAi gSh gJo p1 p2 = some (.inr E)) : MW l y_La_limit b_La_limit 4 [(0, 6, 9, 15)] rm_La_limit D (TYS cI cZ cJ) [.ref xCc, .int p1, .int p2] (wCc xCc cI cZ xGo xFo xPk xSk xAi xSh xJo gGo gFo gPk qPk gSk gAi gSh gJo ++ ([(xo, .inl (cJ, 1, .inr (.inl q)))] : va_W)) sz k (wCc xCc cI cZ xGo xFo xPk xSk xAi xSh xJo gGo gFo gPk qPk gSk gAi gSh gJo ++ ([(xo, .inl (cJ, 1, .inr (.inl q)))] : va_W)) := by
  refine mw_start (own := R_La) (by decide +kernel) rfl (Nat.le_of_ble_eq_true rfl) (fun p e s m args below meth c A ls C0 hr hlk htb hP hD hS hl => ?_)
  obtain ⟨hx, hb, -, hown, hts, hK, hE, -⟩ := id C0
  have hl : lv_has ls 4 [(0, .ref xCc), (1, .int p1), (2, .int p2)] := hl
  obtain ⟨H, hH⟩ : ∃ H, H = s.heap := ⟨_, rfl⟩
  have hP : va_P D vwCl (wCc xCc cI cZ xGo xFo xPk xSk xAi xSh xJo gGo gFo gPk qPk gSk gAi gSh gJo ++ ([(xo, .inl (cJ, 1, .inr (.inl q)))] : va_W)) H := by rw [hH]; exact hP
  have hS : va_S A s.heap H [] := by rw [hH]; exact hS
  rw [show W p l e rm_La_limit s m args below meth c s.heap = W p l e rm_La_limit s m args below meth c H by rw [hH]]
  generalize ([] : List Loc) = locs at hS ⊢
  refine lv_aload_n hx hb d_La_limit_0 rfl (lv_at hl 0 rfl) ?_
  refine lv_iload_n hx hb d_La_limit_1 rfl (lv_at hl 1 rfl) ?_
  refine lv_iload_n hx hb d_La_limit_2 rfl (lv_at hl 2 rfl) ?_
  rcases List.mem_cons.mp hEk with hq | hEk
  · obtain ⟨rfl, rfl⟩ := Prod.mk.inj hq
    refine x_got C0 hP hD hS [0, 1, 2, 3, 4, 5, 6, 7, 8, 9, 10, 11, 12, 13, 14, 15, 16, 17, 18, 19, 20, 21, 22, 23, 24, 25, 26, 27] cc_C rfl (rp_same cc_C) (rV (As := [.int p1, .int p2]) (rest := []) C0 hP hD hS hl.1 [0, 1, 2, 3, 4, 5, 6, 7, 8, 9, 10, 11, 12, 13, 14, 15, 16, 17, 18, 19, 20, 21, 22, 23, 24, 25, 26, 27] (c_Cc_limit_t l hltr D cI cZ cJ xCc xGo xFo xPk xSk xAi xSh xJo H.size gGo gFo gPk qPk gSk gAi gSh gJo p1 p2 xIAE h) k_Cc_limit m_640 rfl rfl cc_C rfl ⟨by decide, by decide⟩ ⟨rfl, rfl⟩ rfl (Nat.le_of_ble_eq_true rfl) d_La_limit_3 ⟨by decide, by decide⟩) (pre := []) (x := ⟨0, 6, 9, 15⟩) (suf := []) (htb.trans rfl) (fun z hz => absurd hz List.not_mem_nil) (by decide) (by decide) m_232 (by decide) (fun q9 H locs hP hD hS => ?_)
    refine lv_astore_n (lv' := [(3, .ref q9), (0, .ref xCc), (1, .int p1), (2, .int p2)]) hx hb d_La_limit_9 rfl hl (by decide) rfl (fun ls hl => ?_)
    refine lv_iconst (v := 1) hx hb d_La_limit_10 (by decide) ?_
    exact mw_ret C0 hr hlk hP hD hS (Nat.le_refl _) (Nat.le_refl _) d_La_limit_11
  exact absurd hEk List.not_mem_nil
abbrev rm_La_shock : Room := { frames := 9, cells := 1, slots := 6, locals := 149 }
set_option maxRecDepth 100000 in
set_option maxHeartbeats 4000000 in
theorem w_shock_r (l : Launch) (D : va_G) (cI cZ cJ : ClassId) (xCc : Nat) (xGo : Nat → Nat) (xFo : Nat → Nat) (xPk : Nat → Nat) (xSk : Nat → Nat) (xAi : Nat → Nat) (xSh : Nat → Nat) (xJo : Nat → Nat) (xo sz : Nat) (gGo : St) (gFo : St) (gPk : St) (qPk : Int64) (gSk : St) (gAi : St) (gSh : St) (gJo : St) (q : Nat → Int64) (p1 : Int32) (p2 : Int32) (r : Int32) (gSh1 : St) (h : f_Cc_shock gGo gFo gPk qPk gSk gAi gSh gJo p1 p2 = some (.inl (r, gSh1))) : MW l y_La_shock b_La_shock 5 [(0, 17, 20, 15)] rm_La_shock D (TYS cI cZ cJ) [.ref xCc, .int p1, .int p2, .ref xo] (wCc xCc cI cZ xGo xFo xPk xSk xAi xSh xJo gGo gFo gPk qPk gSk gAi gSh gJo ++ ([(xo, .inl (cJ, 1, .inr (.inl q)))] : va_W)) sz 0 (wCc xCc cI cZ xGo xFo xPk xSk xAi xSh xJo gGo gFo gPk qPk gSk gAi gSh1 gJo ++ ([(xo, .inl (cJ, 1, .inr (.inl (vp_updL q (0 : Int32).toNatClampNeg (bz r)))))] : va_W)) := by
  refine mw_start (own := R_La) (by decide +kernel) rfl (Nat.le_of_ble_eq_true rfl) (fun p e s m args below meth c A ls C0 hr hlk htb hP hD hS hl => ?_)
  obtain ⟨hx, hb, -, hown, hts, hK, hE, -⟩ := id C0
  have hl : lv_has ls 5 [(0, .ref xCc), (1, .int p1), (2, .int p2), (3, .ref xo)] := hl
  obtain ⟨H, hH⟩ : ∃ H, H = s.heap := ⟨_, rfl⟩
  have hP : va_P D vwCl (wCc xCc cI cZ xGo xFo xPk xSk xAi xSh xJo gGo gFo gPk qPk gSk gAi gSh gJo ++ ([(xo, .inl (cJ, 1, .inr (.inl q)))] : va_W)) H := by rw [hH]; exact hP
  have hS : va_S A s.heap H [] := by rw [hH]; exact hS
  rw [show W p l e rm_La_shock s m args below meth c s.heap = W p l e rm_La_shock s m args below meth c H by rw [hH]]
  generalize ([] : List Loc) = locs at hS ⊢
  refine lv_aload_n hx hb d_La_shock_0 rfl (lv_at hl 3 rfl) ?_
  refine lv_iconst (v := 0) hx hb d_La_shock_1 (by decide) ?_
  refine lv_aload_n hx hb d_La_shock_2 rfl (lv_at hl 0 rfl) ?_
  refine lv_iload_n hx hb d_La_shock_3 rfl (lv_at hl 1 rfl) ?_
  refine lv_iload_n hx hb d_La_shock_4 rfl (lv_at hl 2 rfl) ?_
  refine cVi (ws' := wCc xCc cI cZ xGo xFo xPk xSk xAi xSh xJo gGo gFo gPk qPk gSk gAi gSh1 gJo ++ ([(xo, .inl (cJ, 1, .inr (.inl q)))] : va_W)) (As := [.int p1, .int p2]) (rest := [.int 0, .ref xo]) C0 hP hD hS hl.1 [0, 1, 2, 3, 4, 5, 6, 7, 8, 9, 10, 11, 12, 13, 14, 15, 16, 17, 18, 19, 20, 21, 22, 23, 24, 25, 26, 27] (c_Cc_shock_r l D cI cZ cJ xCc xGo xFo xPk xSk xAi xSh xJo H.size gGo gFo gPk qPk gSk gAi gSh gJo p1 p2 r gSh1 h) k_Cc_shock m_652 rfl rfl cc_C rfl cc_w cc_rp ⟨by decide, by decide⟩ ⟨rfl, rfl⟩ rfl (Nat.le_of_ble_eq_true rfl) d_La_shock_5 ⟨Nat.zero_le _, Nat.zero_le _⟩ (fun H locs hP hD hS => ?_)
  have key : W p l e rm_La_shock s m args below meth c H locs 0 0 (QW below D (TYS cI cZ cJ) A (wCc xCc cI cZ xGo xFo xPk xSk xAi xSh xJo gGo gFo gPk qPk gSk gAi gSh1 gJo ++ ([(xo, .inl (cJ, 1, .inr (.inl (vp_updL q (0 : Int32).toNatClampNeg (bz r)))))] : va_W)) 0 args s) (F0 m 16 ls [.long (bz r), .int 0, .ref xo]) := by
    refine va_last hx hb hK hP hD hS 28 2 rfl rfl (inb_in (by decide)) d_La_shock_16 (fun H locs hP hD hS => ?_)
    rw [cc_o] at hP hD
    refine lv_goto (tgt := 24) hx hb d_La_shock_17 (by decide) ?_
    refine lv_iconst (v := 0) hx hb d_La_shock_24 (by decide) ?_
    exact mw_ret C0 hr hlk hP hD hS (by decide) (by decide) d_La_shock_25
  refine lv_if_eq (tgt := 15) hx hb d_La_shock_8 (by decide) (fun hz => ?_) (fun hz => ?_)
  · refine lv_lconst (v := 0) hx hb d_La_shock_15 (by decide) ?_
    have e0 : bz r = 0 := if_pos hz
    rw [e0] at key ⊢
    exact key
  · refine lv_lconst (v := 1) hx hb d_La_shock_11 (by decide) ?_
    refine lv_goto (tgt := 16) hx hb d_La_shock_12 (by decide) ?_
    have e0 : bz r = 1 := if_neg hz
    rw [e0] at key ⊢
    exact key
set_option maxRecDepth 100000 in
set_option maxHeartbeats 4000000 in
theorem w_shock_t (l : Launch) (D : va_G) (cI cZ cJ : ClassId) (xCc : Nat) (xGo : Nat → Nat) (xFo : Nat → Nat) (xPk : Nat → Nat) (xSk : Nat → Nat) (xAi : Nat → Nat) (xSh : Nat → Nat) (xJo : Nat → Nat) (xo sz : Nat) (gGo : St) (gFo : St) (gPk : St) (qPk : Int64) (gSk : St) (gAi : St) (gSh : St) (gJo : St) (q : Nat → Int64) (p1 : Int32) (p2 : Int32) (hltr : l.stackTraces = false) (E : String) (k : Int32) (hEk : (E, k) ∈ [(xIAE, 1)]) (h : f_Cc_shock gGo gFo gPk qPk gSk gAi gSh gJo p1 p2 = some (.inr E)) : MW l y_La_shock b_La_shock 5 [(0, 17, 20, 15)] rm_La_shock D (TYS cI cZ cJ) [.ref xCc, .int p1, .int p2, .ref xo] (wCc xCc cI cZ xGo xFo xPk xSk xAi xSh xJo gGo gFo gPk qPk gSk gAi gSh gJo ++ ([(xo, .inl (cJ, 1, .inr (.inl q)))] : va_W)) sz k (wCc xCc cI cZ xGo xFo xPk xSk xAi xSh xJo gGo gFo gPk qPk gSk gAi gSh gJo ++ ([(xo, .inl (cJ, 1, .inr (.inl q)))] : va_W)) := by
  refine mw_start (own := R_La) (by decide +kernel) rfl (Nat.le_of_ble_eq_true rfl) (fun p e s m args below meth c A ls C0 hr hlk htb hP hD hS hl => ?_)
  obtain ⟨hx, hb, -, hown, hts, hK, hE, -⟩ := id C0
  have hl : lv_has ls 5 [(0, .ref xCc), (1, .int p1), (2, .int p2), (3, .ref xo)] := hl
  obtain ⟨H, hH⟩ : ∃ H, H = s.heap := ⟨_, rfl⟩
  have hP : va_P D vwCl (wCc xCc cI cZ xGo xFo xPk xSk xAi xSh xJo gGo gFo gPk qPk gSk gAi gSh gJo ++ ([(xo, .inl (cJ, 1, .inr (.inl q)))] : va_W)) H := by rw [hH]; exact hP
  have hS : va_S A s.heap H [] := by rw [hH]; exact hS
  rw [show W p l e rm_La_shock s m args below meth c s.heap = W p l e rm_La_shock s m args below meth c H by rw [hH]]
  generalize ([] : List Loc) = locs at hS ⊢
  refine lv_aload_n hx hb d_La_shock_0 rfl (lv_at hl 3 rfl) ?_
  refine lv_iconst (v := 0) hx hb d_La_shock_1 (by decide) ?_
  refine lv_aload_n hx hb d_La_shock_2 rfl (lv_at hl 0 rfl) ?_
  refine lv_iload_n hx hb d_La_shock_3 rfl (lv_at hl 1 rfl) ?_
  refine lv_iload_n hx hb d_La_shock_4 rfl (lv_at hl 2 rfl) ?_
  rcases List.mem_cons.mp hEk with hq | hEk
  · obtain ⟨rfl, rfl⟩ := Prod.mk.inj hq
    refine x_got C0 hP hD hS [0, 1, 2, 3, 4, 5, 6, 7, 8, 9, 10, 11, 12, 13, 14, 15, 16, 17, 18, 19, 20, 21, 22, 23, 24, 25, 26, 27] cc_C rfl (rp_same cc_C) (rV (As := [.int p1, .int p2]) (rest := [.int 0, .ref xo]) C0 hP hD hS hl.1 [0, 1, 2, 3, 4, 5, 6, 7, 8, 9, 10, 11, 12, 13, 14, 15, 16, 17, 18, 19, 20, 21, 22, 23, 24, 25, 26, 27] (c_Cc_shock_t l hltr D cI cZ cJ xCc xGo xFo xPk xSk xAi xSh xJo H.size gGo gFo gPk qPk gSk gAi gSh gJo p1 p2 xIAE h) k_Cc_shock m_652 rfl rfl cc_C rfl ⟨by decide, by decide⟩ ⟨rfl, rfl⟩ rfl (Nat.le_of_ble_eq_true rfl) d_La_shock_5 ⟨by decide, by decide⟩) (pre := []) (x := ⟨0, 17, 20, 15⟩) (suf := []) (htb.trans rfl) (fun z hz => absurd hz List.not_mem_nil) (by decide) (by decide) m_232 (by decide) (fun q9 H locs hP hD hS => ?_)
    refine lv_astore (lv' := [(4, .ref q9), (0, .ref xCc), (1, .int p1), (2, .int p2), (3, .ref xo)]) hx hb d_La_shock_20 hl (by decide) rfl (fun ls hl => ?_)
    refine lv_iconst (v := 1) hx hb d_La_shock_22 (by decide) ?_
    exact mw_ret C0 hr hlk hP hD hS (Nat.le_refl _) (Nat.le_refl _) d_La_shock_23
  exact absurd hEk List.not_mem_nil
abbrev rm_La_route : Room := { frames := 9, cells := 1, slots := 6, locals := 151 }
set_option maxRecDepth 100000 in
set_option maxHeartbeats 4000000 in
theorem w_route_r (l : Launch) (D : va_G) (cI cZ cJ : ClassId) (xCc : Nat) (xGo : Nat → Nat) (xFo : Nat → Nat) (xPk : Nat → Nat) (xSk : Nat → Nat) (xAi : Nat → Nat) (xSh : Nat → Nat) (xJo : Nat → Nat) (xo sz : Nat) (gGo : St) (gFo : St) (gPk : St) (qPk : Int64) (gSk : St) (gAi : St) (gSh : St) (gJo : St) (q : Nat → Int64) (p1 : Int32) (p2 : Int32) (r : Int32) (gJo1 : St) (h : f_Cc_route gGo gFo gPk qPk gSk gAi gSh gJo p1 p2 = some (.inl (r, gJo1))) : MW l y_La_route b_La_route 5 [(0, 10, 13, 15)] rm_La_route D (TYS cI cZ cJ) [.ref xCc, .int p1, .int p2, .ref xo] (wCc xCc cI cZ xGo xFo xPk xSk xAi xSh xJo gGo gFo gPk qPk gSk gAi gSh gJo ++ ([(xo, .inl (cJ, 1, .inr (.inl q)))] : va_W)) sz 0 (wCc xCc cI cZ xGo xFo xPk xSk xAi xSh xJo gGo gFo gPk qPk gSk gAi gSh gJo1 ++ ([(xo, .inl (cJ, 1, .inr (.inl (vp_updL q (0 : Int32).toNatClampNeg (r.toInt64)))))] : va_W)) := by
  refine mw_start (own := R_La) (by decide +kernel) rfl (Nat.le_of_ble_eq_true rfl) (fun p e s m args below meth c A ls C0 hr hlk htb hP hD hS hl => ?_)
  obtain ⟨hx, hb, -, hown, hts, hK, hE, -⟩ := id C0
  have hl : lv_has ls 5 [(0, .ref xCc), (1, .int p1), (2, .int p2), (3, .ref xo)] := hl
  obtain ⟨H, hH⟩ : ∃ H, H = s.heap := ⟨_, rfl⟩
  have hP : va_P D vwCl (wCc xCc cI cZ xGo xFo xPk xSk xAi xSh xJo gGo gFo gPk qPk gSk gAi gSh gJo ++ ([(xo, .inl (cJ, 1, .inr (.inl q)))] : va_W)) H := by rw [hH]; exact hP
  have hS : va_S A s.heap H [] := by rw [hH]; exact hS
  rw [show W p l e rm_La_route s m args below meth c s.heap = W p l e rm_La_route s m args below meth c H by rw [hH]]
  generalize ([] : List Loc) = locs at hS ⊢
  refine lv_aload_n hx hb d_La_route_0 rfl (lv_at hl 3 rfl) ?_
  refine lv_iconst (v := 0) hx hb d_La_route_1 (by decide) ?_
  refine lv_aload_n hx hb d_La_route_2 rfl (lv_at hl 0 rfl) ?_
  refine lv_iload_n hx hb d_La_route_3 rfl (lv_at hl 1 rfl) ?_
  refine lv_iload_n hx hb d_La_route_4 rfl (lv_at hl 2 rfl) ?_
  refine cVi (ws' := wCc xCc cI cZ xGo xFo xPk xSk xAi xSh xJo gGo gFo gPk qPk gSk gAi gSh gJo1 ++ ([(xo, .inl (cJ, 1, .inr (.inl q)))] : va_W)) (As := [.int p1, .int p2]) (rest := [.int 0, .ref xo]) C0 hP hD hS hl.1 [0, 1, 2, 3, 4, 5, 6, 7, 8, 9, 10, 11, 12, 13, 14, 15, 16, 17, 18, 19, 20, 21, 22, 23, 24, 25, 26, 27] (c_Cc_route_r l D cI cZ cJ xCc xGo xFo xPk xSk xAi xSh xJo H.size gGo gFo gPk qPk gSk gAi gSh gJo p1 p2 r gJo1 h) k_Cc_route m_663 rfl rfl cc_C rfl cc_w cc_rp ⟨by decide, by decide⟩ ⟨rfl, rfl⟩ rfl (Nat.le_of_ble_eq_true rfl) d_La_route_5 ⟨Nat.zero_le _, Nat.zero_le _⟩ (fun H locs hP hD hS => ?_)
  refine lv_i2l (v := r.toInt64) hx hb d_La_route_8 rfl ?_
  refine va_last hx hb hK hP hD hS 28 2 rfl rfl (inb_in (by decide)) d_La_route_9 (fun H locs hP hD hS => ?_)
  rw [cc_o] at hP hD
  refine lv_goto (tgt := 17) hx hb d_La_route_10 (by decide) ?_
  refine lv_iconst (v := 0) hx hb d_La_route_17 (by decide) ?_
  exact mw_ret C0 hr hlk hP hD hS (by decide) (by decide) d_La_route_18
set_option maxRecDepth 100000 in
set_option maxHeartbeats 4000000 in
theorem w_route_t (l : Launch) (D : va_G) (cI cZ cJ : ClassId) (xCc : Nat) (xGo : Nat → Nat) (xFo : Nat → Nat) (xPk : Nat → Nat) (xSk : Nat → Nat) (xAi : Nat → Nat) (xSh : Nat → Nat) (xJo : Nat → Nat) (xo sz : Nat) (gGo : St) (gFo : St) (gPk : St) (qPk : Int64) (gSk : St) (gAi : St) (gSh : St) (gJo : St) (q : Nat → Int64) (p1 : Int32) (p2 : Int32) (hltr : l.stackTraces = false) (E : String) (k : Int32) (hEk : (E, k) ∈ [(xIAE, 1)]) (h : f_Cc_route gGo gFo gPk qPk gSk gAi gSh gJo p1 p2 = some (.inr E)) : MW l y_La_route b_La_route 5 [(0, 10, 13, 15)] rm_La_route D (TYS cI cZ cJ) [.ref xCc, .int p1, .int p2, .ref xo] (wCc xCc cI cZ xGo xFo xPk xSk xAi xSh xJo gGo gFo gPk qPk gSk gAi gSh gJo ++ ([(xo, .inl (cJ, 1, .inr (.inl q)))] : va_W)) sz k (wCc xCc cI cZ xGo xFo xPk xSk xAi xSh xJo gGo gFo gPk qPk gSk gAi gSh gJo ++ ([(xo, .inl (cJ, 1, .inr (.inl q)))] : va_W)) := by
  refine mw_start (own := R_La) (by decide +kernel) rfl (Nat.le_of_ble_eq_true rfl) (fun p e s m args below meth c A ls C0 hr hlk htb hP hD hS hl => ?_)
  obtain ⟨hx, hb, -, hown, hts, hK, hE, -⟩ := id C0
  have hl : lv_has ls 5 [(0, .ref xCc), (1, .int p1), (2, .int p2), (3, .ref xo)] := hl
  obtain ⟨H, hH⟩ : ∃ H, H = s.heap := ⟨_, rfl⟩
  have hP : va_P D vwCl (wCc xCc cI cZ xGo xFo xPk xSk xAi xSh xJo gGo gFo gPk qPk gSk gAi gSh gJo ++ ([(xo, .inl (cJ, 1, .inr (.inl q)))] : va_W)) H := by rw [hH]; exact hP
  have hS : va_S A s.heap H [] := by rw [hH]; exact hS
  rw [show W p l e rm_La_route s m args below meth c s.heap = W p l e rm_La_route s m args below meth c H by rw [hH]]
  generalize ([] : List Loc) = locs at hS ⊢
  refine lv_aload_n hx hb d_La_route_0 rfl (lv_at hl 3 rfl) ?_
  refine lv_iconst (v := 0) hx hb d_La_route_1 (by decide) ?_
  refine lv_aload_n hx hb d_La_route_2 rfl (lv_at hl 0 rfl) ?_
  refine lv_iload_n hx hb d_La_route_3 rfl (lv_at hl 1 rfl) ?_
  refine lv_iload_n hx hb d_La_route_4 rfl (lv_at hl 2 rfl) ?_
  rcases List.mem_cons.mp hEk with hq | hEk
  · obtain ⟨rfl, rfl⟩ := Prod.mk.inj hq
    refine x_got C0 hP hD hS [0, 1, 2, 3, 4, 5, 6, 7, 8, 9, 10, 11, 12, 13, 14, 15, 16, 17, 18, 19, 20, 21, 22, 23, 24, 25, 26, 27] cc_C rfl (rp_same cc_C) (rV (As := [.int p1, .int p2]) (rest := [.int 0, .ref xo]) C0 hP hD hS hl.1 [0, 1, 2, 3, 4, 5, 6, 7, 8, 9, 10, 11, 12, 13, 14, 15, 16, 17, 18, 19, 20, 21, 22, 23, 24, 25, 26, 27] (c_Cc_route_t l hltr D cI cZ cJ xCc xGo xFo xPk xSk xAi xSh xJo H.size gGo gFo gPk qPk gSk gAi gSh gJo p1 p2 xIAE h) k_Cc_route m_663 rfl rfl cc_C rfl ⟨by decide, by decide⟩ ⟨rfl, rfl⟩ rfl (Nat.le_of_ble_eq_true rfl) d_La_route_5 ⟨by decide, by decide⟩) (pre := []) (x := ⟨0, 10, 13, 15⟩) (suf := []) (htb.trans rfl) (fun z hz => absurd hz List.not_mem_nil) (by decide) (by decide) m_232 (by decide) (fun q9 H locs hP hD hS => ?_)
    refine lv_astore (lv' := [(4, .ref q9), (0, .ref xCc), (1, .int p1), (2, .int p2), (3, .ref xo)]) hx hb d_La_route_13 hl (by decide) rfl (fun ls hl => ?_)
    refine lv_iconst (v := 1) hx hb d_La_route_15 (by decide) ?_
    exact mw_ret C0 hr hlk hP hD hS (Nat.le_refl _) (Nat.le_refl _) d_La_route_16
  exact absurd hEk List.not_mem_nil
abbrev rm_La_drop : Room := { frames := 9, cells := 1, slots := 6, locals := 145 }
set_option maxRecDepth 100000 in
set_option maxHeartbeats 4000000 in
theorem w_drop_r (l : Launch) (D : va_G) (cI cZ cJ : ClassId) (xCc : Nat) (xGo : Nat → Nat) (xFo : Nat → Nat) (xPk : Nat → Nat) (xSk : Nat → Nat) (xAi : Nat → Nat) (xSh : Nat → Nat) (xJo : Nat → Nat) (xo sz : Nat) (gGo : St) (gFo : St) (gPk : St) (qPk : Int64) (gSk : St) (gAi : St) (gSh : St) (gJo : St) (q : Nat → Int64) (p1 : Int32) (r : Int32)  (h : f_Cc_drop gGo gFo gPk qPk gSk gAi gSh gJo p1 = some (.inl r)) : MW l y_La_drop b_La_drop 4 [(0, 9, 12, 21)] rm_La_drop D (TYS cI cZ cJ) [.ref xCc, .int p1, .ref xo] (wCc xCc cI cZ xGo xFo xPk xSk xAi xSh xJo gGo gFo gPk qPk gSk gAi gSh gJo ++ ([(xo, .inl (cJ, 1, .inr (.inl q)))] : va_W)) sz 0 (wCc xCc cI cZ xGo xFo xPk xSk xAi xSh xJo gGo gFo gPk qPk gSk gAi gSh gJo ++ ([(xo, .inl (cJ, 1, .inr (.inl (vp_updL q (0 : Int32).toNatClampNeg (r.toInt64)))))] : va_W)) := by
  refine mw_start (own := R_La) (by decide +kernel) rfl (Nat.le_of_ble_eq_true rfl) (fun p e s m args below meth c A ls C0 hr hlk htb hP hD hS hl => ?_)
  obtain ⟨hx, hb, -, hown, hts, hK, hE, -⟩ := id C0
  have hl : lv_has ls 4 [(0, .ref xCc), (1, .int p1), (2, .ref xo)] := hl
  obtain ⟨H, hH⟩ : ∃ H, H = s.heap := ⟨_, rfl⟩
  have hP : va_P D vwCl (wCc xCc cI cZ xGo xFo xPk xSk xAi xSh xJo gGo gFo gPk qPk gSk gAi gSh gJo ++ ([(xo, .inl (cJ, 1, .inr (.inl q)))] : va_W)) H := by rw [hH]; exact hP
  have hS : va_S A s.heap H [] := by rw [hH]; exact hS
  rw [show W p l e rm_La_drop s m args below meth c s.heap = W p l e rm_La_drop s m args below meth c H by rw [hH]]
  generalize ([] : List Loc) = locs at hS ⊢
  refine lv_aload_n hx hb d_La_drop_0 rfl (lv_at hl 2 rfl) ?_
  refine lv_iconst (v := 0) hx hb d_La_drop_1 (by decide) ?_
  refine lv_aload_n hx hb d_La_drop_2 rfl (lv_at hl 0 rfl) ?_
  refine lv_iload_n hx hb d_La_drop_3 rfl (lv_at hl 1 rfl) ?_
  refine cVi (ws' := wCc xCc cI cZ xGo xFo xPk xSk xAi xSh xJo gGo gFo gPk qPk gSk gAi gSh gJo ++ ([(xo, .inl (cJ, 1, .inr (.inl q)))] : va_W)) (As := [.int p1]) (rest := [.int 0, .ref xo]) C0 hP hD hS hl.1 [0, 1, 2, 3, 4, 5, 6, 7, 8, 9, 10, 11, 12, 13, 14, 15, 16, 17, 18, 19, 20, 21, 22, 23, 24, 25, 26, 27] (c_Cc_drop_r l D cI cZ cJ xCc xGo xFo xPk xSk xAi xSh xJo H.size gGo gFo gPk qPk gSk gAi gSh gJo p1 r h) k_Cc_drop m_677 rfl rfl cc_C rfl cc_w cc_rp ⟨by decide, by decide⟩ ⟨rfl, rfl⟩ rfl (Nat.le_of_ble_eq_true rfl) d_La_drop_4 ⟨Nat.zero_le _, Nat.zero_le _⟩ (fun H locs hP hD hS => ?_)
  refine lv_i2l (v := r.toInt64) hx hb d_La_drop_7 rfl ?_
  refine va_last hx hb hK hP hD hS 28 2 rfl rfl (inb_in (by decide)) d_La_drop_8 (fun H locs hP hD hS => ?_)
  rw [cc_o] at hP hD
  refine lv_goto (tgt := 15) hx hb d_La_drop_9 (by decide) ?_
  refine lv_iconst (v := 0) hx hb d_La_drop_15 (by decide) ?_
  exact mw_ret C0 hr hlk hP hD hS (by decide) (by decide) d_La_drop_16
set_option maxRecDepth 100000 in
set_option maxHeartbeats 4000000 in
theorem w_drop_t (l : Launch) (D : va_G) (cI cZ cJ : ClassId) (xCc : Nat) (xGo : Nat → Nat) (xFo : Nat → Nat) (xPk : Nat → Nat) (xSk : Nat → Nat) (xAi : Nat → Nat) (xSh : Nat → Nat) (xJo : Nat → Nat) (xo sz : Nat) (gGo : St) (gFo : St) (gPk : St) (qPk : Int64) (gSk : St) (gAi : St) (gSh : St) (gJo : St) (q : Nat → Int64) (p1 : Int32) (hltr : l.stackTraces = false) (E : String) (k : Int32) (hEk : (E, k) ∈ [(xIOE, 1)]) (h : f_Cc_drop gGo gFo gPk qPk gSk gAi gSh gJo p1 = some (.inr E)) : MW l y_La_drop b_La_drop 4 [(0, 9, 12, 21)] rm_La_drop D (TYS cI cZ cJ) [.ref xCc, .int p1, .ref xo] (wCc xCc cI cZ xGo xFo xPk xSk xAi xSh xJo gGo gFo gPk qPk gSk gAi gSh gJo ++ ([(xo, .inl (cJ, 1, .inr (.inl q)))] : va_W)) sz k (wCc xCc cI cZ xGo xFo xPk xSk xAi xSh xJo gGo gFo gPk qPk gSk gAi gSh gJo ++ ([(xo, .inl (cJ, 1, .inr (.inl q)))] : va_W)) := by
  refine mw_start (own := R_La) (by decide +kernel) rfl (Nat.le_of_ble_eq_true rfl) (fun p e s m args below meth c A ls C0 hr hlk htb hP hD hS hl => ?_)
  obtain ⟨hx, hb, -, hown, hts, hK, hE, -⟩ := id C0
  have hl : lv_has ls 4 [(0, .ref xCc), (1, .int p1), (2, .ref xo)] := hl
  obtain ⟨H, hH⟩ : ∃ H, H = s.heap := ⟨_, rfl⟩
  have hP : va_P D vwCl (wCc xCc cI cZ xGo xFo xPk xSk xAi xSh xJo gGo gFo gPk qPk gSk gAi gSh gJo ++ ([(xo, .inl (cJ, 1, .inr (.inl q)))] : va_W)) H := by rw [hH]; exact hP
  have hS : va_S A s.heap H [] := by rw [hH]; exact hS
  rw [show W p l e rm_La_drop s m args below meth c s.heap = W p l e rm_La_drop s m args below meth c H by rw [hH]]
  generalize ([] : List Loc) = locs at hS ⊢
  refine lv_aload_n hx hb d_La_drop_0 rfl (lv_at hl 2 rfl) ?_
  refine lv_iconst (v := 0) hx hb d_La_drop_1 (by decide) ?_
  refine lv_aload_n hx hb d_La_drop_2 rfl (lv_at hl 0 rfl) ?_
  refine lv_iload_n hx hb d_La_drop_3 rfl (lv_at hl 1 rfl) ?_
  rcases List.mem_cons.mp hEk with hq | hEk
  · obtain ⟨rfl, rfl⟩ := Prod.mk.inj hq
    refine x_got C0 hP hD hS [0, 1, 2, 3, 4, 5, 6, 7, 8, 9, 10, 11, 12, 13, 14, 15, 16, 17, 18, 19, 20, 21, 22, 23, 24, 25, 26, 27] cc_C rfl (rp_same cc_C) (rV (As := [.int p1]) (rest := [.int 0, .ref xo]) C0 hP hD hS hl.1 [0, 1, 2, 3, 4, 5, 6, 7, 8, 9, 10, 11, 12, 13, 14, 15, 16, 17, 18, 19, 20, 21, 22, 23, 24, 25, 26, 27] (c_Cc_drop_t l hltr D cI cZ cJ xCc xGo xFo xPk xSk xAi xSh xJo H.size gGo gFo gPk qPk gSk gAi gSh gJo p1 xIOE h) k_Cc_drop m_677 rfl rfl cc_C rfl ⟨by decide, by decide⟩ ⟨rfl, rfl⟩ rfl (Nat.le_of_ble_eq_true rfl) d_La_drop_4 ⟨by decide, by decide⟩) (pre := []) (x := ⟨0, 9, 12, 21⟩) (suf := []) (htb.trans rfl) (fun z hz => absurd hz List.not_mem_nil) (by decide) (by decide) m_335 (by decide) (fun q9 H locs hP hD hS => ?_)
    refine lv_astore_n (lv' := [(3, .ref q9), (0, .ref xCc), (1, .int p1), (2, .ref xo)]) hx hb d_La_drop_12 rfl hl (by decide) rfl (fun ls hl => ?_)
    refine lv_iconst (v := 1) hx hb d_La_drop_13 (by decide) ?_
    exact mw_ret C0 hr hlk hP hD hS (Nat.le_refl _) (Nat.le_refl _) d_La_drop_14
  exact absurd hEk List.not_mem_nil
abbrev rm_La_count : Room := { frames := 7, cells := 1, slots := 6, locals := 103 }
set_option maxRecDepth 100000 in
set_option maxHeartbeats 4000000 in
theorem w_count_r (l : Launch) (D : va_G) (cI cZ cJ : ClassId) (xCc : Nat) (xGo : Nat → Nat) (xFo : Nat → Nat) (xPk : Nat → Nat) (xSk : Nat → Nat) (xAi : Nat → Nat) (xSh : Nat → Nat) (xJo : Nat → Nat) (xo sz : Nat) (gGo : St) (gFo : St) (gPk : St) (qPk : Int64) (gSk : St) (gAi : St) (gSh : St) (gJo : St) (q : Nat → Int64) (p1 : Int32) (r : Int32)  (h : f_Cc_count gGo gFo gPk qPk gSk gAi gSh gJo p1 = some (.inl r)) : MW l y_La_count b_La_count 4 [(0, 9, 12, 21)] rm_La_count D (TYS cI cZ cJ) [.ref xCc, .int p1, .ref xo] (wCc xCc cI cZ xGo xFo xPk xSk xAi xSh xJo gGo gFo gPk qPk gSk gAi gSh gJo ++ ([(xo, .inl (cJ, 1, .inr (.inl q)))] : va_W)) sz 0 (wCc xCc cI cZ xGo xFo xPk xSk xAi xSh xJo gGo gFo gPk qPk gSk gAi gSh gJo ++ ([(xo, .inl (cJ, 1, .inr (.inl (vp_updL q (0 : Int32).toNatClampNeg (r.toInt64)))))] : va_W)) := by
  refine mw_start (own := R_La) (by decide +kernel) rfl (Nat.le_of_ble_eq_true rfl) (fun p e s m args below meth c A ls C0 hr hlk htb hP hD hS hl => ?_)
  obtain ⟨hx, hb, -, hown, hts, hK, hE, -⟩ := id C0
  have hl : lv_has ls 4 [(0, .ref xCc), (1, .int p1), (2, .ref xo)] := hl
  obtain ⟨H, hH⟩ : ∃ H, H = s.heap := ⟨_, rfl⟩
  have hP : va_P D vwCl (wCc xCc cI cZ xGo xFo xPk xSk xAi xSh xJo gGo gFo gPk qPk gSk gAi gSh gJo ++ ([(xo, .inl (cJ, 1, .inr (.inl q)))] : va_W)) H := by rw [hH]; exact hP
  have hS : va_S A s.heap H [] := by rw [hH]; exact hS
  rw [show W p l e rm_La_count s m args below meth c s.heap = W p l e rm_La_count s m args below meth c H by rw [hH]]
  generalize ([] : List Loc) = locs at hS ⊢
  refine lv_aload_n hx hb d_La_count_0 rfl (lv_at hl 2 rfl) ?_
  refine lv_iconst (v := 0) hx hb d_La_count_1 (by decide) ?_
  refine lv_aload_n hx hb d_La_count_2 rfl (lv_at hl 0 rfl) ?_
  refine lv_iload_n hx hb d_La_count_3 rfl (lv_at hl 1 rfl) ?_
  refine cVi (ws' := wCc xCc cI cZ xGo xFo xPk xSk xAi xSh xJo gGo gFo gPk qPk gSk gAi gSh gJo ++ ([(xo, .inl (cJ, 1, .inr (.inl q)))] : va_W)) (As := [.int p1]) (rest := [.int 0, .ref xo]) C0 hP hD hS hl.1 [0, 1, 2, 3, 4, 5, 6, 7, 8, 9, 10, 11, 12, 13, 14, 15, 16, 17, 18, 19, 20, 21, 22, 23, 24, 25, 26, 27] (c_Cc_count_r l D cI cZ cJ xCc xGo xFo xPk xSk xAi xSh xJo H.size gGo gFo gPk qPk gSk gAi gSh gJo p1 r h) k_Cc_count m_689 rfl rfl cc_C rfl cc_w cc_rp ⟨by decide, by decide⟩ ⟨rfl, rfl⟩ rfl (Nat.le_of_ble_eq_true rfl) d_La_count_4 ⟨Nat.zero_le _, Nat.zero_le _⟩ (fun H locs hP hD hS => ?_)
  refine lv_i2l (v := r.toInt64) hx hb d_La_count_7 rfl ?_
  refine va_last hx hb hK hP hD hS 28 2 rfl rfl (inb_in (by decide)) d_La_count_8 (fun H locs hP hD hS => ?_)
  rw [cc_o] at hP hD
  refine lv_goto (tgt := 15) hx hb d_La_count_9 (by decide) ?_
  refine lv_iconst (v := 0) hx hb d_La_count_15 (by decide) ?_
  exact mw_ret C0 hr hlk hP hD hS (by decide) (by decide) d_La_count_16
set_option maxRecDepth 100000 in
set_option maxHeartbeats 4000000 in
theorem w_count_t (l : Launch) (D : va_G) (cI cZ cJ : ClassId) (xCc : Nat) (xGo : Nat → Nat) (xFo : Nat → Nat) (xPk : Nat → Nat) (xSk : Nat → Nat) (xAi : Nat → Nat) (xSh : Nat → Nat) (xJo : Nat → Nat) (xo sz : Nat) (gGo : St) (gFo : St) (gPk : St) (qPk : Int64) (gSk : St) (gAi : St) (gSh : St) (gJo : St) (q : Nat → Int64) (p1 : Int32) (hltr : l.stackTraces = false) (E : String) (k : Int32) (hEk : (E, k) ∈ [(xIOE, 1)]) (h : f_Cc_count gGo gFo gPk qPk gSk gAi gSh gJo p1 = some (.inr E)) : MW l y_La_count b_La_count 4 [(0, 9, 12, 21)] rm_La_count D (TYS cI cZ cJ) [.ref xCc, .int p1, .ref xo] (wCc xCc cI cZ xGo xFo xPk xSk xAi xSh xJo gGo gFo gPk qPk gSk gAi gSh gJo ++ ([(xo, .inl (cJ, 1, .inr (.inl q)))] : va_W)) sz k (wCc xCc cI cZ xGo xFo xPk xSk xAi xSh xJo gGo gFo gPk qPk gSk gAi gSh gJo ++ ([(xo, .inl (cJ, 1, .inr (.inl q)))] : va_W)) := by
  refine mw_start (own := R_La) (by decide +kernel) rfl (Nat.le_of_ble_eq_true rfl) (fun p e s m args below meth c A ls C0 hr hlk htb hP hD hS hl => ?_)
  obtain ⟨hx, hb, -, hown, hts, hK, hE, -⟩ := id C0
  have hl : lv_has ls 4 [(0, .ref xCc), (1, .int p1), (2, .ref xo)] := hl
  obtain ⟨H, hH⟩ : ∃ H, H = s.heap := ⟨_, rfl⟩
  have hP : va_P D vwCl (wCc xCc cI cZ xGo xFo xPk xSk xAi xSh xJo gGo gFo gPk qPk gSk gAi gSh gJo ++ ([(xo, .inl (cJ, 1, .inr (.inl q)))] : va_W)) H := by rw [hH]; exact hP
  have hS : va_S A s.heap H [] := by rw [hH]; exact hS
  rw [show W p l e rm_La_count s m args below meth c s.heap = W p l e rm_La_count s m args below meth c H by rw [hH]]
  generalize ([] : List Loc) = locs at hS ⊢
  refine lv_aload_n hx hb d_La_count_0 rfl (lv_at hl 2 rfl) ?_
  refine lv_iconst (v := 0) hx hb d_La_count_1 (by decide) ?_
  refine lv_aload_n hx hb d_La_count_2 rfl (lv_at hl 0 rfl) ?_
  refine lv_iload_n hx hb d_La_count_3 rfl (lv_at hl 1 rfl) ?_
  rcases List.mem_cons.mp hEk with hq | hEk
  · obtain ⟨rfl, rfl⟩ := Prod.mk.inj hq
    refine x_got C0 hP hD hS [0, 1, 2, 3, 4, 5, 6, 7, 8, 9, 10, 11, 12, 13, 14, 15, 16, 17, 18, 19, 20, 21, 22, 23, 24, 25, 26, 27] cc_C rfl (rp_same cc_C) (rV (As := [.int p1]) (rest := [.int 0, .ref xo]) C0 hP hD hS hl.1 [0, 1, 2, 3, 4, 5, 6, 7, 8, 9, 10, 11, 12, 13, 14, 15, 16, 17, 18, 19, 20, 21, 22, 23, 24, 25, 26, 27] (c_Cc_count_t l hltr D cI cZ cJ xCc xGo xFo xPk xSk xAi xSh xJo H.size gGo gFo gPk qPk gSk gAi gSh gJo p1 xIOE h) k_Cc_count m_689 rfl rfl cc_C rfl ⟨by decide, by decide⟩ ⟨rfl, rfl⟩ rfl (Nat.le_of_ble_eq_true rfl) d_La_count_4 ⟨by decide, by decide⟩) (pre := []) (x := ⟨0, 9, 12, 21⟩) (suf := []) (htb.trans rfl) (fun z hz => absurd hz List.not_mem_nil) (by decide) (by decide) m_335 (by decide) (fun q9 H locs hP hD hS => ?_)
    refine lv_astore_n (lv' := [(3, .ref q9), (0, .ref xCc), (1, .int p1), (2, .ref xo)]) hx hb d_La_count_12 rfl hl (by decide) rfl (fun ls hl => ?_)
    refine lv_iconst (v := 1) hx hb d_La_count_13 (by decide) ?_
    exact mw_ret C0 hr hlk hP hD hS (Nat.le_refl _) (Nat.le_refl _) d_La_count_14
  exact absurd hEk List.not_mem_nil
