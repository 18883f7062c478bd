abbrev rm_Cc_init : Room := { frames := 2, cells := 27, slots := 954, locals := 34 }
set_option maxRecDepth 100000 in
set_option maxHeartbeats 4000000 in
theorem c_Cc_init (l : Launch) (D : va_G) (cI cZ cJ : ClassId) (h0 sz : Nat) : MN l y_Cc_init b_Cc_init 1 rm_Cc_init D (TYS cI cZ cJ) [.ref h0] [(h0, .inr (7, [.null, .null, .null, .null, .null, .null, .null]))] sz (fun (_ : (Nat → Nat) × (Nat → Nat) × (Nat → Nat) × (Nat → Nat) × (Nat → Nat) × (Nat → Nat) × (Nat → Nat)) => True) (fun (x : (Nat → Nat) × (Nat → Nat) × (Nat → Nat) × (Nat → Nat) × (Nat → Nat) × (Nat → Nat) × (Nat → Nat)) => wCc h0 cI cZ x.1 x.2.1 x.2.2.1 x.2.2.2.1 x.2.2.2.2.1 x.2.2.2.2.2.1 x.2.2.2.2.2.2 gGo0 gFo0 gPk0 0 gSk0 gAi0 gSh0 gJo0) 27 954 := by
  refine mn_start (own := R_Cc) (by decide +kernel) rfl (Nat.le_of_ble_eq_true rfl) (fun p e s m args below meth c A ls C0 hr hlk hin hP hD hS hl => ?_)
  obtain ⟨Q, hQ⟩ : ∃ Q, Q = QN below D (TYS cI cZ cJ) A (fun (_ : (Nat → Nat) × (Nat → Nat) × (Nat → Nat) × (Nat → Nat) × (Nat → Nat) × (Nat → Nat) × (Nat → Nat)) => True) (fun (x : (Nat → Nat) × (Nat → Nat) × (Nat → Nat) × (Nat → Nat) × (Nat → Nat) × (Nat → Nat) × (Nat → Nat)) => wCc h0 cI cZ x.1 x.2.1 x.2.2.1 x.2.2.2.1 x.2.2.2.2.1 x.2.2.2.2.2.1 x.2.2.2.2.2.2 gGo0 gFo0 gPk0 0 gSk0 gAi0 gSh0 gJo0) 27 954 args s := ⟨_, rfl⟩
  rw [← hQ]
  obtain ⟨hx, hb, -, hown, hts, hK, hE, hA⟩ := id C0
  have hl : lv_has ls 1 [(0, .ref h0)] := hl
  obtain ⟨H, hH⟩ : ∃ H, H = s.heap := ⟨_, rfl⟩
  have hP : va_P D vwCl [(h0, .inr (7, [.null, .null, .null, .null, .null, .null, .null]))] H := by rw [hH]; exact hP
  have hS : va_S A s.heap H [] := by rw [hH]; exact hS
  rw [show W p l e rm_Cc_init s m args below meth c s.heap = W p l e rm_Cc_init s m args below meth c H by rw [hH]]
  generalize ([] : List Loc) = locs at hS ⊢
  refine lv_aload_n hx hb d_Cc_init_0 rfl (lv_at hl 0 rfl) ?_
  refine W.objInit hx hb hown (hts _ m_46) (hts _ m_47) (hts _ m_48) rfl (by rw [C0.2.2.1]; exact hl.1) rfl d_Cc_init_1 (Nat.le_of_ble_eq_true rfl) (Nat.le_of_ble_eq_true rfl) ?_
  refine W.eq (g2 := F0 m 4 ls []) rfl ?_
  refine lv_aload_n hx hb d_Cc_init_4 rfl (lv_at hl 0 rfl) ?_
  refine va_new (ci := 2) (fs := [.null, .null, .null, .null, .null, .int 0]) (C := R_Go) (T := F_Go) (N := 6) hx hb hts i_Go t_Go o_Go hown (hts _ m_49) (hts _ m_50) (hts _ m_24) hK hP hD hS hA rfl (fun j hj => by rcases (show j = 0 ∨ j = 1 ∨ j = 2 ∨ j = 3 ∨ j = 4 ∨ j = 5 by omega) with rfl | rfl | rfl | rfl | rfl | rfl <;> rfl) (Nat.le_of_ble_eq_true rfl) (Nat.le_of_ble_eq_true rfl) d_Cc_init_5 (fun qGo H hP hD hS => ?_)
  refine lv_dup hx hb d_Cc_init_8 rfl ?_
  refine cInit (wr := [(h0, .inr (7, [.null, .null, .null, .null, .null, .null, .null]))]) (rest := [.ref qGo, .ref h0]) C0 hP hD hS hl.1 [0] [1] (c_Go_init l D cI cZ cJ qGo H.size) ⟨m_53, m_24, m_52, by decide +kernel⟩ m_51 rfl rfl rfl (by decide) (by decide) (by decide) ⟨by decide, by decide⟩ ⟨rfl, rfl⟩ (Nat.le_of_ble_eq_true rfl) d_Cc_init_9 ⟨Nat.le_of_ble_eq_true rfl, Nat.le_of_ble_eq_true rfl⟩ (fun xGo H locs hx0 hP1 hD1 hS1 => ?_)
  subst hx0
  have hP : va_P D vwCl ((h0, .inr (7, [.null, .null, .null, .null, .null, .null, .null])) :: (wGo xGo cI cZ gGo0)) H := hP1
  have hD : va_D A ((h0, .inr (7, [.null, .null, .null, .null, .null, .null, .null])) :: (wGo xGo cI cZ gGo0)) := hD1
  have hS := hS1
  refine va_putF (D := D) (ci := 7) (v := .ref (xGo 0)) (ty := (t_Cc 0)) (C := R_Cc) (T := F_Cc) (N := 7) hx hb hts i_Cc t_Cc o_Cc n_Cc hown hK hP hD hS 0 rfl rfl 0 (by decide) (hts _ m_206) (fun _ h9 => h9) rfl hin rfl (by decide +kernel) rfl rfl (Nat.le_of_ble_eq_true rfl) d_Cc_init_12 (fun H locs hP hD hS => ?_)
  have hP : va_P D vwCl ((h0, .inr (7, [.ref (xGo 0), .null, .null, .null, .null, .null, .null])) :: (wGo xGo cI cZ gGo0)) H := hP
  have hD : va_D A ((h0, .inr (7, [.ref (xGo 0), .null, .null, .null, .null, .null, .null])) :: (wGo xGo cI cZ gGo0)) := hD
  refine lv_aload_n hx hb d_Cc_init_15 rfl (lv_at hl 0 rfl) ?_
  refine va_new (ci := 1) (fs := [.null, .null, .null, .null, .null]) (C := R_Fo) (T := F_Fo) (N := 5) hx hb hts i_Fo t_Fo o_Fo hown (hts _ m_78) (hts _ m_79) (hts _ m_25) hK hP hD hS hA rfl (fun j hj => by rcases (show j = 0 ∨ j = 1 ∨ j = 2 ∨ j = 3 ∨ j = 4 by omega) with rfl | rfl | rfl | rfl | rfl <;> rfl) (Nat.le_of_ble_eq_true rfl) (Nat.le_of_ble_eq_true rfl) d_Cc_init_16 (fun qFo H hP hD hS => ?_)
  refine lv_dup hx hb d_Cc_init_19 rfl ?_
  refine cInit (wr := ((h0, .inr (7, [.ref (xGo 0), .null, .null, .null, .null, .null, .null])) :: (wGo xGo cI cZ gGo0))) (rest := [.ref qFo, .ref h0]) C0 hP hD hS hl.1 [0, 1, 2, 3, 4, 5, 6] [7] (c_Fo_init l D cI cZ cJ qFo H.size) ⟨m_82, m_25, m_81, by decide +kernel⟩ m_80 rfl rfl rfl (by decide) (by decide) (by decide) ⟨by decide, by decide⟩ ⟨rfl, rfl⟩ (Nat.le_of_ble_eq_true rfl) d_Cc_init_20 ⟨Nat.le_of_ble_eq_true rfl, Nat.le_of_ble_eq_true rfl⟩ (fun xFo H locs hx0 hP1 hD1 hS1 => ?_)
  subst hx0
  have hP : va_P D vwCl ((h0, .inr (7, [.ref (xGo 0), .null, .null, .null, .null, .null, .null])) :: (wGo xGo cI cZ gGo0 ++ wFo xFo cI cZ gFo0)) H := hP1
  have hD : va_D A ((h0, .inr (7, [.ref (xGo 0), .null, .null, .null, .null, .null, .null])) :: (wGo xGo cI cZ gGo0 ++ wFo xFo cI cZ gFo0)) := hD1
  have hS := hS1
  refine va_putF (D := D) (ci := 7) (v := .ref (xFo 0)) (ty := (t_Cc 1)) (C := R_Cc) (T := F_Cc) (N := 7) hx hb hts i_Cc t_Cc o_Cc n_Cc hown hK hP hD hS 0 rfl rfl 1 (by decide) (hts _ m_207) (fun _ h9 => h9) rfl hin rfl (by decide +kernel) rfl rfl (Nat.le_of_ble_eq_true rfl) d_Cc_init_23 (fun H locs hP hD hS => ?_)
  have hP : va_P D vwCl ((h0, .inr (7, [.ref (xGo 0), .ref (xFo 0), .null, .null, .null, .null, .null])) :: (wGo xGo cI cZ gGo0 ++ wFo xFo cI cZ gFo0)) H := hP
  have hD : va_D A ((h0, .inr (7, [.ref (xGo 0), .ref (xFo 0), .null, .null, .null, .null, .null])) :: (wGo xGo cI cZ gGo0 ++ wFo xFo cI cZ gFo0)) := hD
  refine lv_aload_n hx hb d_Cc_init_26 rfl (lv_at hl 0 rfl) ?_
  refine va_new (ci := 4) (fs := [.null, .null, .null, .null, .int 0, .int 0, .int 0, .long 0]) (C := R_Pk) (T := F_Pk) (N := 8) hx hb hts i_Pk t_Pk o_Pk hown (hts _ m_100) (hts _ m_101) (hts _ m_26) hK hP hD hS hA rfl (fun j hj => by rcases (show j = 0 ∨ j = 1 ∨ j = 2 ∨ j = 3 ∨ j = 4 ∨ j = 5 ∨ j = 6 ∨ j = 7 by omega) with rfl | rfl | rfl | rfl | rfl | rfl | rfl | rfl <;> rfl) (Nat.le_of_ble_eq_true rfl) (Nat.le_of_ble_eq_true rfl) d_Cc_init_27 (fun qPk H hP hD hS => ?_)
  refine lv_dup hx hb d_Cc_init_30 rfl ?_
  refine cInit (wr := ((h0, .inr (7, [.ref (xGo 0), .ref (xFo 0), .null, .null, .null, .null, .null])) :: (wGo xGo cI cZ gGo0 ++ wFo xFo cI cZ gFo0))) (rest := [.ref qPk, .ref h0]) C0 hP hD hS hl.1 [0, 1, 2, 3, 4, 5, 6, 7, 8, 9, 10, 11, 12] [13] (c_Pk_init l D cI cZ cJ qPk H.size) ⟨m_104, m_26, m_103, by decide +kernel⟩ m_102 rfl rfl rfl (by decide) (by decide) (by decide) ⟨by decide, by decide⟩ ⟨rfl, rfl⟩ (Nat.le_of_ble_eq_true rfl) d_Cc_init_31 ⟨Nat.le_of_ble_eq_true rfl, Nat.le_of_ble_eq_true rfl⟩ (fun xPk H locs hx0 hP1 hD1 hS1 => ?_)
  subst hx0
  have hP : va_P D vwCl ((h0, .inr (7, [.ref (xGo 0), .ref (xFo 0), .null, .null, .null, .null, .null])) :: (wGo xGo cI cZ gGo0 ++ wFo xFo cI cZ gFo0 ++ wPk xPk cI cZ gPk0 0)) H := hP1
  have hD : va_D A ((h0, .inr (7, [.ref (xGo 0), .ref (xFo 0), .null, .null, .null, .null, .null])) :: (wGo xGo cI cZ gGo0 ++ wFo xFo cI cZ gFo0 ++ wPk xPk cI cZ gPk0 0)) := hD1
  have hS := hS1
  refine va_putF (D := D) (ci := 7) (v := .ref (xPk 0)) (ty := (t_Cc 2)) (C := R_Cc) (T := F_Cc) (N := 7) hx hb hts i_Cc t_Cc o_Cc n_Cc hown hK hP hD hS 0 rfl rfl 2 (by decide) (hts _ m_208) (fun _ h9 => h9) rfl hin rfl (by decide +kernel) rfl rfl (Nat.le_of_ble_eq_true rfl) d_Cc_init_34 (fun H locs hP hD hS => ?_)
  have hP : va_P D vwCl ((h0, .inr (7, [.ref (xGo 0), .ref (xFo 0), .ref (xPk 0), .null, .null, .null, .null])) :: (wGo xGo cI cZ gGo0 ++ wFo xFo cI cZ gFo0 ++ wPk xPk cI cZ gPk0 0)) H := hP
  have hD : va_D A ((h0, .inr (7, [.ref (xGo 0), .ref (xFo 0), .ref (xPk 0), .null, .null, .null, .null])) :: (wGo xGo cI cZ gGo0 ++ wFo xFo cI cZ gFo0 ++ wPk xPk cI cZ gPk0 0)) := hD
  refine lv_aload_n hx hb d_Cc_init_37 rfl (lv_at hl 0 rfl) ?_
  refine va_new (ci := 6) (fs := [.null, .null, .null, .null, .int 0]) (C := R_Sk) (T := F_Sk) (N := 5) hx hb hts i_Sk t_Sk o_Sk hown (hts _ m_131) (hts _ m_132) (hts _ m_27) hK hP hD hS hA rfl (fun j hj => by rcases (show j = 0 ∨ j = 1 ∨ j = 2 ∨ j = 3 ∨ j = 4 by omega) with rfl | rfl | rfl | rfl | rfl <;> rfl) (Nat.le_of_ble_eq_true rfl) (Nat.le_of_ble_eq_true rfl) d_Cc_init_38 (fun qSk H hP hD hS => ?_)
  refine lv_dup hx hb d_Cc_init_41 rfl ?_
  refine cInit (wr := ((h0, .inr (7, [.ref (xGo 0), .ref (xFo 0), .ref (xPk 0), .null, .null, .null, .null])) :: (wGo xGo cI cZ gGo0 ++ wFo xFo cI cZ gFo0 ++ wPk xPk cI cZ gPk0 0))) (rest := [.ref qSk, .ref h0]) C0 hP hD hS hl.1 [0, 1, 2, 3, 4, 5, 6, 7, 8, 9, 10, 11, 12, 13, 14, 15, 16, 17] [18] (c_Sk_init l D cI cZ cJ qSk H.size) ⟨m_135, m_27, m_134, by decide +kernel⟩ m_133 rfl rfl rfl (by decide) (by decide) (by decide) ⟨by decide, by decide⟩ ⟨rfl, rfl⟩ (Nat.le_of_ble_eq_true rfl) d_Cc_init_42 ⟨Nat.le_of_ble_eq_true rfl, Nat.le_of_ble_eq_true rfl⟩ (fun xSk H locs hx0 hP1 hD1 hS1 => ?_)
  subst hx0
  have hP : va_P D vwCl ((h0, .inr (7, [.ref (xGo 0), .ref (xFo 0), .ref (xPk 0), .null, .null, .null, .null])) :: (wGo xGo cI cZ gGo0 ++ wFo xFo cI cZ gFo0 ++ wPk xPk cI cZ gPk0 0 ++ wSk xSk cI cZ gSk0)) H := hP1
  have hD : va_D A ((h0, .inr (7, [.ref (xGo 0), .ref (xFo 0), .ref (xPk 0), .null, .null, .null, .null])) :: (wGo xGo cI cZ gGo0 ++ wFo xFo cI cZ gFo0 ++ wPk xPk cI cZ gPk0 0 ++ wSk xSk cI cZ gSk0)) := hD1
  have hS := hS1
  refine va_putF (D := D) (ci := 7) (v := .ref (xSk 0)) (ty := (t_Cc 3)) (C := R_Cc) (T := F_Cc) (N := 7) hx hb hts i_Cc t_Cc o_Cc n_Cc hown hK hP hD hS 0 rfl rfl 3 (by decide) (hts _ m_209) (fun _ h9 => h9) rfl hin rfl (by decide +kernel) rfl rfl (Nat.le_of_ble_eq_true rfl) d_Cc_init_45 (fun H locs hP hD hS => ?_)
  have hP : va_P D vwCl ((h0, .inr (7, [.ref (xGo 0), .ref (xFo 0), .ref (xPk 0), .ref (xSk 0), .null, .null, .null])) :: (wGo xGo cI cZ gGo0 ++ wFo xFo cI cZ gFo0 ++ wPk xPk cI cZ gPk0 0 ++ wSk xSk cI cZ gSk0)) H := hP
  have hD : va_D A ((h0, .inr (7, [.ref (xGo 0), .ref (xFo 0), .ref (xPk 0), .ref (xSk 0), .null, .null, .null])) :: (wGo xGo cI cZ gGo0 ++ wFo xFo cI cZ gFo0 ++ wPk xPk cI cZ gPk0 0 ++ wSk xSk cI cZ gSk0)) := hD
  refine lv_aload_n hx hb d_Cc_init_48 rfl (lv_at hl 0 rfl) ?_
  refine va_new (ci := 0) (fs := [.null, .int 0, .int 0]) (C := R_Ai) (T := F_Ai) (N := 3) hx hb hts i_Ai t_Ai o_Ai hown (hts _ m_155) (hts _ m_156) (hts _ m_28) hK hP hD hS hA rfl (fun j hj => by rcases (show j = 0 ∨ j = 1 ∨ j = 2 by omega) with rfl | rfl | rfl <;> rfl) (Nat.le_of_ble_eq_true rfl) (Nat.le_of_ble_eq_true rfl) d_Cc_init_49 (fun qAi H hP hD hS => ?_)
  refine lv_dup hx hb d_Cc_init_52 rfl ?_
  refine cInit (wr := ((h0, .inr (7, [.ref (xGo 0), .ref (xFo 0), .ref (xPk 0), .ref (xSk 0), .null, .null, .null])) :: (wGo xGo cI cZ gGo0 ++ wFo xFo cI cZ gFo0 ++ wPk xPk cI cZ gPk0 0 ++ wSk xSk cI cZ gSk0))) (rest := [.ref qAi, .ref h0]) C0 hP hD hS hl.1 [0, 1, 2, 3, 4, 5, 6, 7, 8, 9, 10, 11, 12, 13, 14, 15, 16, 17, 18, 19, 20, 21, 22] [23] (c_Ai_init l D cI cZ cJ qAi H.size) ⟨m_159, m_28, m_158, by decide +kernel⟩ m_157 rfl rfl rfl (by decide) (by decide) (by decide) ⟨by decide, by decide⟩ ⟨rfl, rfl⟩ (Nat.le_of_ble_eq_true rfl) d_Cc_init_53 ⟨Nat.le_of_ble_eq_true rfl, Nat.le_of_ble_eq_true rfl⟩ (fun xAi H locs hx0 hP1 hD1 hS1 => ?_)
  subst hx0
  have hP : va_P D vwCl ((h0, .inr (7, [.ref (xGo 0), .ref (xFo 0), .ref (xPk 0), .ref (xSk 0), .null, .null, .null])) :: (wGo xGo cI cZ gGo0 ++ wFo xFo cI cZ gFo0 ++ wPk xPk cI cZ gPk0 0 ++ wSk xSk cI cZ gSk0 ++ wAi xAi cI cZ gAi0)) H := hP1
  have hD : va_D A ((h0, .inr (7, [.ref (xGo 0), .ref (xFo 0), .ref (xPk 0), .ref (xSk 0), .null, .null, .null])) :: (wGo xGo cI cZ gGo0 ++ wFo xFo cI cZ gFo0 ++ wPk xPk cI cZ gPk0 0 ++ wSk xSk cI cZ gSk0 ++ wAi xAi cI cZ gAi0)) := hD1
  have hS := hS1
  refine va_putF (D := D) (ci := 7) (v := .ref (xAi 0)) (ty := (t_Cc 4)) (C := R_Cc) (T := F_Cc) (N := 7) hx hb hts i_Cc t_Cc o_Cc n_Cc hown hK hP hD hS 0 rfl rfl 4 (by decide) (hts _ m_210) (fun _ h9 => h9) rfl hin rfl (by decide +kernel) rfl rfl (Nat.le_of_ble_eq_true rfl) d_Cc_init_56 (fun H locs hP hD hS => ?_)
  have hP : va_P D vwCl ((h0, .inr (7, [.ref (xGo 0), .ref (xFo 0), .ref (xPk 0), .ref (xSk 0), .ref (xAi 0), .null, .null])) :: (wGo xGo cI cZ gGo0 ++ wFo xFo cI cZ gFo0 ++ wPk xPk cI cZ gPk0 0 ++ wSk xSk cI cZ gSk0 ++ wAi xAi cI cZ gAi0)) H := hP
  have hD : va_D A ((h0, .inr (7, [.ref (xGo 0), .ref (xFo 0), .ref (xPk 0), .ref (xSk 0), .ref (xAi 0), .null, .null])) :: (wGo xGo cI cZ gGo0 ++ wFo xFo cI cZ gFo0 ++ wPk xPk cI cZ gPk0 0 ++ wSk xSk cI cZ gSk0 ++ wAi xAi cI cZ gAi0)) := hD
  refine lv_aload_n hx hb d_Cc_init_59 rfl (lv_at hl 0 rfl) ?_
  refine va_new (ci := 5) (fs := [.int 0, .int 0, .int 0, .int 0]) (C := R_Sh) (T := F_Sh) (N := 4) hx hb hts i_Sh t_Sh o_Sh hown (hts _ m_172) (hts _ m_173) (hts _ m_29) hK hP hD hS hA rfl (fun j hj => by rcases (show j = 0 ∨ j = 1 ∨ j = 2 ∨ j = 3 by omega) with rfl | rfl | rfl | rfl <;> rfl) (Nat.le_of_ble_eq_true rfl) (Nat.le_of_ble_eq_true rfl) d_Cc_init_60 (fun qSh H hP hD hS => ?_)
  refine lv_dup hx hb d_Cc_init_63 rfl ?_
  refine cInit (wr := ((h0, .inr (7, [.ref (xGo 0), .ref (xFo 0), .ref (xPk 0), .ref (xSk 0), .ref (xAi 0), .null, .null])) :: (wGo xGo cI cZ gGo0 ++ wFo xFo cI cZ gFo0 ++ wPk xPk cI cZ gPk0 0 ++ wSk xSk cI cZ gSk0 ++ wAi xAi cI cZ gAi0))) (rest := [.ref qSh, .ref h0]) C0 hP hD hS hl.1 [0, 1, 2, 3, 4, 5, 6, 7, 8, 9, 10, 11, 12, 13, 14, 15, 16, 17, 18, 19, 20, 21, 22, 23, 24] [25] (c_Sh_init l D cI cZ cJ qSh H.size) ⟨m_176, m_29, m_175, by decide +kernel⟩ m_174 rfl rfl rfl (by decide) (by decide) (by decide) ⟨by decide, by decide⟩ ⟨rfl, rfl⟩ (Nat.le_of_ble_eq_true rfl) d_Cc_init_64 ⟨Nat.le_of_ble_eq_true rfl, Nat.le_of_ble_eq_true rfl⟩ (fun xSh H locs hx0 hP1 hD1 hS1 => ?_)
  subst hx0
  have hP : va_P D vwCl ((h0, .inr (7, [.ref (xGo 0), .ref (xFo 0), .ref (xPk 0), .ref (xSk 0), .ref (xAi 0), .null, .null])) :: (wGo xGo cI cZ gGo0 ++ wFo xFo cI cZ gFo0 ++ wPk xPk cI cZ gPk0 0 ++ wSk xSk cI cZ gSk0 ++ wAi xAi cI cZ gAi0 ++ wSh xSh cI cZ gSh0)) H := hP1
  have hD : va_D A ((h0, .inr (7, [.ref (xGo 0), .ref (xFo 0), .ref (xPk 0), .ref (xSk 0), .ref (xAi 0), .null, .null])) :: (wGo xGo cI cZ gGo0 ++ wFo xFo cI cZ gFo0 ++ wPk xPk cI cZ gPk0 0 ++ wSk xSk cI cZ gSk0 ++ wAi xAi cI cZ gAi0 ++ wSh xSh cI cZ gSh0)) := hD1
  have hS := hS1
  refine va_putF (D := D) (ci := 7) (v := .ref (xSh 0)) (ty := (t_Cc 5)) (C := R_Cc) (T := F_Cc) (N := 7) hx hb hts i_Cc t_Cc o_Cc n_Cc hown hK hP hD hS 0 rfl rfl 5 (by decide) (hts _ m_211) (fun _ h9 => h9) rfl hin rfl (by decide +kernel) rfl rfl (Nat.le_of_ble_eq_true rfl) d_Cc_init_67 (fun H locs hP hD hS => ?_)
  have hP : va_P D vwCl ((h0, .inr (7, [.ref (xGo 0), .ref (xFo 0), .ref (xPk 0), .ref (xSk 0), .ref (xAi 0), .ref (xSh 0), .null])) :: (wGo xGo cI cZ gGo0 ++ wFo xFo cI cZ gFo0 ++ wPk xPk cI cZ gPk0 0 ++ wSk xSk cI cZ gSk0 ++ wAi xAi cI cZ gAi0 ++ wSh xSh cI cZ gSh0)) H := hP
  have hD : va_D A ((h0, .inr (7, [.ref (xGo 0), .ref (xFo 0), .ref (xPk 0), .ref (xSk 0), .ref (xAi 0), .ref (xSh 0), .null])) :: (wGo xGo cI cZ gGo0 ++ wFo xFo cI cZ gFo0 ++ wPk xPk cI cZ gPk0 0 ++ wSk xSk cI cZ gSk0 ++ wAi xAi cI cZ gAi0 ++ wSh xSh cI cZ gSh0)) := hD
  refine lv_aload_n hx hb d_Cc_init_70 rfl (lv_at hl 0 rfl) ?_
  refine va_new (ci := 3) (fs := [.null, .int 0]) (C := R_Jo) (T := F_Jo) (N := 2) hx hb hts i_Jo t_Jo o_Jo hown (hts _ m_193) (hts _ m_194) (hts _ m_30) hK hP hD hS hA rfl (fun j hj => by rcases (show j = 0 ∨ j = 1 by omega) with rfl | rfl <;> rfl) (Nat.le_of_ble_eq_true rfl) (Nat.le_of_ble_eq_true rfl) d_Cc_init_71 (fun qJo H hP hD hS => ?_)
  refine lv_dup hx hb d_Cc_init_74 rfl ?_
  refine cInit (wr := ((h0, .inr (7, [.ref (xGo 0), .ref (xFo 0), .ref (xPk 0), .ref (xSk 0), .ref (xAi 0), .ref (xSh 0), .null])) :: (wGo xGo cI cZ gGo0 ++ wFo xFo cI cZ gFo0 ++ wPk xPk cI cZ gPk0 0 ++ wSk xSk cI cZ gSk0 ++ wAi xAi cI cZ gAi0 ++ wSh xSh cI cZ gSh0))) (rest := [.ref qJo, .ref h0]) C0 hP hD hS hl.1 [0, 1, 2, 3, 4, 5, 6, 7, 8, 9, 10, 11, 12, 13, 14, 15, 16, 17, 18, 19, 20, 21, 22, 23, 24, 25] [26] (c_Jo_init l D cI cZ cJ qJo H.size) ⟨m_197, m_30, m_196, by decide +kernel⟩ m_195 rfl rfl rfl (by decide) (by decide) (by decide) ⟨by decide, by decide⟩ ⟨rfl, rfl⟩ (Nat.le_of_ble_eq_true rfl) d_Cc_init_75 ⟨Nat.le_of_ble_eq_true rfl, Nat.le_of_ble_eq_true rfl⟩ (fun xJo H locs hx0 hP1 hD1 hS1 => ?_)
  subst hx0
  have hP : va_P D vwCl ((h0, .inr (7, [.ref (xGo 0), .ref (xFo 0), .ref (xPk 0), .ref (xSk 0), .ref (xAi 0), .ref (xSh 0), .null])) :: (wGo xGo cI cZ gGo0 ++ wFo xFo cI cZ gFo0 ++ wPk xPk cI cZ gPk0 0 ++ wSk xSk cI cZ gSk0 ++ wAi xAi cI cZ gAi0 ++ wSh xSh cI cZ gSh0 ++ wJo xJo cI cZ gJo0)) H := hP1
  have hD : va_D A ((h0, .inr (7, [.ref (xGo 0), .ref (xFo 0), .ref (xPk 0), .ref (xSk 0), .ref (xAi 0), .ref (xSh 0), .null])) :: (wGo xGo cI cZ gGo0 ++ wFo xFo cI cZ gFo0 ++ wPk xPk cI cZ gPk0 0 ++ wSk xSk cI cZ gSk0 ++ wAi xAi cI cZ gAi0 ++ wSh xSh cI cZ gSh0 ++ wJo xJo cI cZ gJo0)) := hD1
  have hS := hS1
  refine va_putF (D := D) (ci := 7) (v := .ref (xJo 0)) (ty := (t_Cc 6)) (C := R_Cc) (T := F_Cc) (N := 7) hx hb hts i_Cc t_Cc o_Cc n_Cc hown hK hP hD hS 0 rfl rfl 6 (by decide) (hts _ m_212) (fun _ h9 => h9) rfl hin rfl (by decide +kernel) rfl rfl (Nat.le_of_ble_eq_true rfl) d_Cc_init_78 (fun H locs hP hD hS => ?_)
  have hP : va_P D vwCl ((h0, .inr (7, [.ref (xGo 0), .ref (xFo 0), .ref (xPk 0), .ref (xSk 0), .ref (xAi 0), .ref (xSh 0), .ref (xJo 0)])) :: (wGo xGo cI cZ gGo0 ++ wFo xFo cI cZ gFo0 ++ wPk xPk cI cZ gPk0 0 ++ wSk xSk cI cZ gSk0 ++ wAi xAi cI cZ gAi0 ++ wSh xSh cI cZ gSh0 ++ wJo xJo cI cZ gJo0)) H := hP
  have hD : va_D A ((h0, .inr (7, [.ref (xGo 0), .ref (xFo 0), .ref (xPk 0), .ref (xSk 0), .ref (xAi 0), .ref (xSh 0), .ref (xJo 0)])) :: (wGo xGo cI cZ gGo0 ++ wFo xFo cI cZ gFo0 ++ wPk xPk cI cZ gPk0 0 ++ wSk xSk cI cZ gSk0 ++ wAi xAi cI cZ gAi0 ++ wSh xSh cI cZ gSh0 ++ wJo xJo cI cZ gJo0)) := hD
  rw [hQ]
  exact mn_ret (S := (Nat → Nat) × (Nat → Nat) × (Nat → Nat) × (Nat → Nat) × (Nat → Nat) × (Nat → Nat) × (Nat → Nat)) (xGo, xFo, xPk, xSk, xAi, xSh, xJo) trivial C0 hr hlk hP hD hS (Nat.le_of_ble_eq_true rfl) (Nat.le_of_ble_eq_true rfl) d_Cc_init_81
