abbrev rm_Go_add_r : Room := { frames := 1, cells := 0, slots := 0, locals := 22 }
set_option maxRecDepth 100000 in
set_option maxHeartbeats 4000000 in
theorem c_Go_add_r (l : Launch) (D : va_G) (cI cZ cJ : ClassId) (xGo : Nat → Nat) (sz : Nat) (gGo : St) (p1 : Int32) (p2 : Int32) (p3 : Int32) (p4 : Int32) (r : Int32) (gGo1 : St) (h : f_Go_add gGo p1 p2 p3 p4 = some (.inl (r, gGo1))) : MI l y_Go_add b_Go_add 6 (some .int) rm_Go_add_r D (TYS cI cZ cJ) [.ref (xGo 0), .int p1, .int p2, .int p3, .int p4] (wGo xGo cI cZ gGo) sz r (wGo xGo cI cZ gGo1) := by
  refine mi_start (own := R_Go) (by decide +kernel) rfl (Nat.le_of_ble_eq_true rfl) (fun p e s m args below meth c A ls C0 hr hlk hP hD hS hl => ?_)
  obtain ⟨Q, hQ⟩ : ∃ Q, Q = QI below D (TYS cI cZ cJ) A (wGo xGo cI cZ gGo1) r args s := ⟨_, rfl⟩
  rw [← hQ]
  obtain ⟨hx, hb, -, hown, hts, hK, hE, -⟩ := id C0
  have hl : lv_has ls 6 [(0, .ref (xGo 0)), (1, .int p1), (2, .int p2), (3, .int p3), (4, .int p4)] := hl
  obtain ⟨H, hH⟩ : ∃ H, H = s.heap := ⟨_, rfl⟩
  have hP : va_P D vwCl (wGo xGo cI cZ gGo) H := by rw [hH]; exact hP
  have hS : va_S A s.heap H [] := by rw [hH]; exact hS
  rw [show W p l e rm_Go_add_r s m args below meth c s.heap = W p l e rm_Go_add_r s m args below meth c H by rw [hH]]
  generalize ([] : List Loc) = locs at hS ⊢
  unfold f_Go_add at h
  refine lv_aload_n hx hb d_Go_add_0 rfl (lv_at hl 0 rfl) ?_
  refine va_get (ci := 2) (v := .int (gGo 0 5)) (C := R_Go) (T := F_Go) (N := 6) hx hb hts i_Go hown hK hP 0 rfl rfl 5 (by decide) (hts _ m_61) (fun _ h9 => h9) rfl d_Go_add_1 ?_
  refine lv_bipush (v := 6) hx hb d_Go_add_4 (by decide) ?_
  obtain ⟨hc_1, h⟩ | ⟨E9, hc_1, h⟩ := xc0_i h
  rotate_left
  · cases h
  refine cNv (ws' := (wGo xGo cI cZ gGo)) (As := [.int (gGo 0 5), .int 6]) (rest := []) C0 hP hD hS hl.1 [] (c_Cc_requireRoom_r l D cI cZ cJ  H.size (gGo 0 5) 6 hc_1) k_Cc_requireRoom (List.mem_of_getElem? (i := 0) rfl) rfl rfl rfl (rp_same rfl) ⟨by decide, by decide⟩ ⟨rfl, rfl⟩ rfl (Nat.le_of_ble_eq_true rfl) d_Go_add_6 ⟨Nat.zero_le _, Nat.zero_le _⟩ (fun H locs hP hD hS => ?_)
  refine lv_iload_n hx hb d_Go_add_9 rfl (lv_at hl 1 rfl) ?_
  refine lv_iconst (v := 1) hx hb d_Go_add_10 (by decide) ?_
  refine lv_sipush (v := 200) hx hb d_Go_add_11 (by decide) ?_
  obtain ⟨hc_2, h⟩ | ⟨E9, hc_2, h⟩ := xc0_i h
  rotate_left
  · cases h
  refine cNv (ws' := (wGo xGo cI cZ gGo)) (As := [.int p1, .int 1, .int 200]) (rest := []) C0 hP hD hS hl.1 [] (c_Cc_requireRange_r l D cI cZ cJ  H.size p1 1 200 hc_2) k_Cc_requireRange (List.mem_of_getElem? (i := 1) rfl) rfl rfl rfl (rp_same rfl) ⟨by decide, by decide⟩ ⟨rfl, rfl⟩ rfl (Nat.le_of_ble_eq_true rfl) d_Go_add_14 ⟨Nat.zero_le _, Nat.zero_le _⟩ (fun H locs hP hD hS => ?_)
  refine lv_iload_n hx hb d_Go_add_17 rfl (lv_at hl 2 rfl) ?_
  refine lv_iconst (v := 1) hx hb d_Go_add_18 (by decide) ?_
  refine lv_sipush (v := 200) hx hb d_Go_add_19 (by decide) ?_
  obtain ⟨hc_3, h⟩ | ⟨E9, hc_3, h⟩ := xc0_i h
  rotate_left
  · cases h
  refine cNv (ws' := (wGo xGo cI cZ gGo)) (As := [.int p2, .int 1, .int 200]) (rest := []) C0 hP hD hS hl.1 [] (c_Cc_requireRange_r l D cI cZ cJ  H.size p2 1 200 hc_3) k_Cc_requireRange (List.mem_of_getElem? (i := 1) rfl) rfl rfl rfl (rp_same rfl) ⟨by decide, by decide⟩ ⟨rfl, rfl⟩ rfl (Nat.le_of_ble_eq_true rfl) d_Go_add_22 ⟨Nat.zero_le _, Nat.zero_le _⟩ (fun H locs hP hD hS => ?_)
  refine lv_iload_n hx hb d_Go_add_25 rfl (lv_at hl 3 rfl) ?_
  refine lv_iconst (v := 1) hx hb d_Go_add_26 (by decide) ?_
  refine lv_sipush (v := 200) hx hb d_Go_add_27 (by decide) ?_
  obtain ⟨hc_4, h⟩ | ⟨E9, hc_4, h⟩ := xc0_i h
  rotate_left
  · cases h
  refine cNv (ws' := (wGo xGo cI cZ gGo)) (As := [.int p3, .int 1, .int 200]) (rest := []) C0 hP hD hS hl.1 [] (c_Cc_requireRange_r l D cI cZ cJ  H.size p3 1 200 hc_4) k_Cc_requireRange (List.mem_of_getElem? (i := 1) rfl) rfl rfl rfl (rp_same rfl) ⟨by decide, by decide⟩ ⟨rfl, rfl⟩ rfl (Nat.le_of_ble_eq_true rfl) d_Go_add_30 ⟨Nat.zero_le _, Nat.zero_le _⟩ (fun H locs hP hD hS => ?_)
  refine lv_iload hx hb d_Go_add_33 (lv_at hl 4 rfl) ?_
  refine lv_iconst (v := 1) hx hb d_Go_add_35 (by decide) ?_
  refine lv_ldc hx hb hown (hts _ m_331) d_Go_add_36 ?_
  obtain ⟨hc_5, h⟩ | ⟨E9, hc_5, h⟩ := xc0_i h
  rotate_left
  · cases h
  refine cNv (ws' := (wGo xGo cI cZ gGo)) (As := [.int p4, .int 1, .int 100000]) (rest := []) C0 hP hD hS hl.1 [] (c_Cc_requireRange_r l D cI cZ cJ  H.size p4 1 100000 hc_5) k_Cc_requireRange (List.mem_of_getElem? (i := 1) rfl) rfl rfl rfl (rp_same rfl) ⟨by decide, by decide⟩ ⟨rfl, rfl⟩ rfl (Nat.le_of_ble_eq_true rfl) d_Go_add_38 ⟨Nat.zero_le _, Nat.zero_le _⟩ (fun H locs hP hD hS => ?_)
  refine lv_aload_n hx hb d_Go_add_41 rfl (lv_at hl 0 rfl) ?_
  refine va_get (ci := 2) (v := .int (gGo 0 5)) (C := R_Go) (T := F_Go) (N := 6) hx hb hts i_Go hown hK hP 0 rfl rfl 5 (by decide) (hts _ m_61) (fun _ h9 => h9) rfl d_Go_add_42 ?_
  refine lv_iconst (v := 3) hx hb d_Go_add_45 (by decide) ?_
  refine lv_imul hx hb d_Go_add_46 ?_
  obtain ⟨x_6, ex_6, h⟩ := letb_i h
  refine lv_topn ex_6 ?_
  refine lv_istore (lv' := [(5, .int x_6), (0, .ref (xGo 0)), (1, .int p1), (2, .int p2), (3, .int p3), (4, .int p4)]) hx hb d_Go_add_47 hl (by decide) rfl (fun ls hl => ?_)
  refine lv_aload_n hx hb d_Go_add_49 rfl (lv_at hl 1 rfl) ?_
  refine va_get (ci := 2) (v := .ref (xGo 1)) (C := R_Go) (T := F_Go) (N := 6) hx hb hts i_Go hown hK hP 0 rfl rfl 0 (by decide) (hts _ m_55) (fun _ h9 => h9) rfl d_Go_add_50 ?_
  refine lv_iload hx hb d_Go_add_53 (lv_at hl 0 rfl) ?_
  refine lv_iload_n hx hb d_Go_add_55 rfl (lv_at hl 2 rfl) ?_
  obtain ⟨hi_7, h⟩ := gb_i h
  refine va_iast hx hb hK hP hD hS 1 0 rfl rfl (inb_in hi_7) d_Go_add_56 (fun H locs hP hD hS => ?_)
  obtain ⟨gGo_8, egGo_8, h⟩ := letb_i h
  have hP : va_P D vwCl (wGo xGo cI cZ gGo_8) H := by rw [egGo_8, u_Go_1]; exact hP
  have hD : va_D A (wGo xGo cI cZ gGo_8) := by rw [egGo_8, u_Go_1]; exact hD
  refine lv_aload_n hx hb d_Go_add_57 rfl (lv_at hl 1 rfl) ?_
  refine va_get (ci := 2) (v := .ref (xGo 1)) (C := R_Go) (T := F_Go) (N := 6) hx hb hts i_Go hown hK hP 0 rfl rfl 0 (by decide) (hts _ m_55) (fun _ h9 => h9) rfl d_Go_add_58 ?_
  refine lv_iload hx hb d_Go_add_61 (lv_at hl 0 rfl) ?_
  refine lv_iconst (v := 1) hx hb d_Go_add_63 (by decide) ?_
  refine lv_iadd hx hb d_Go_add_64 ?_
  refine lv_iload_n hx hb d_Go_add_65 rfl (lv_at hl 3 rfl) ?_
  obtain ⟨hi_9, h⟩ := gb_i h
  refine va_iast hx hb hK hP hD hS 1 0 rfl rfl (inb_in hi_9) d_Go_add_66 (fun H locs hP hD hS => ?_)
  obtain ⟨gGo_10, egGo_10, h⟩ := letb_i h
  have hP : va_P D vwCl (wGo xGo cI cZ gGo_10) H := by rw [egGo_10, u_Go_1]; exact hP
  have hD : va_D A (wGo xGo cI cZ gGo_10) := by rw [egGo_10, u_Go_1]; exact hD
  refine lv_aload_n hx hb d_Go_add_67 rfl (lv_at hl 1 rfl) ?_
  refine va_get (ci := 2) (v := .ref (xGo 1)) (C := R_Go) (T := F_Go) (N := 6) hx hb hts i_Go hown hK hP 0 rfl rfl 0 (by decide) (hts _ m_55) (fun _ h9 => h9) rfl d_Go_add_68 ?_
  refine lv_iload hx hb d_Go_add_71 (lv_at hl 0 rfl) ?_
  refine lv_iconst (v := 2) hx hb d_Go_add_73 (by decide) ?_
  refine lv_iadd hx hb d_Go_add_74 ?_
  refine lv_iload_n hx hb d_Go_add_75 rfl (lv_at hl 4 rfl) ?_
  obtain ⟨hi_11, h⟩ := gb_i h
  refine va_iast hx hb hK hP hD hS 1 0 rfl rfl (inb_in hi_11) d_Go_add_76 (fun H locs hP hD hS => ?_)
  obtain ⟨gGo_12, egGo_12, h⟩ := letb_i h
  have hP : va_P D vwCl (wGo xGo cI cZ gGo_12) H := by rw [egGo_12, u_Go_1]; exact hP
  have hD : va_D A (wGo xGo cI cZ gGo_12) := by rw [egGo_12, u_Go_1]; exact hD
  refine lv_aload_n hx hb d_Go_add_77 rfl (lv_at hl 1 rfl) ?_
  refine va_get (ci := 2) (v := .ref (xGo 2)) (C := R_Go) (T := F_Go) (N := 6) hx hb hts i_Go hown hK hP 0 rfl rfl 1 (by decide) (hts _ m_57) (fun _ h9 => h9) rfl d_Go_add_78 ?_
  refine lv_aload_n hx hb d_Go_add_81 rfl (lv_at hl 1 rfl) ?_
  refine va_get (ci := 2) (v := .int (gGo_12 0 5)) (C := R_Go) (T := F_Go) (N := 6) hx hb hts i_Go hown hK hP 0 rfl rfl 5 (by decide) (hts _ m_61) (fun _ h9 => h9) rfl d_Go_add_82 ?_
  refine lv_iload hx hb d_Go_add_85 (lv_at hl 5 rfl) ?_
  obtain ⟨hi_13, h⟩ := gb_i h
  refine va_iast hx hb hK hP hD hS 2 0 rfl rfl (inb_in hi_13) d_Go_add_87 (fun H locs hP hD hS => ?_)
  obtain ⟨gGo_14, egGo_14, h⟩ := letb_i h
  have hP : va_P D vwCl (wGo xGo cI cZ gGo_14) H := by rw [egGo_14, u_Go_2]; exact hP
  have hD : va_D A (wGo xGo cI cZ gGo_14) := by rw [egGo_14, u_Go_2]; exact hD
  refine lv_aload_n hx hb d_Go_add_88 rfl (lv_at hl 1 rfl) ?_
  refine lv_dup hx hb d_Go_add_89 rfl ?_
  refine va_get (ci := 2) (v := .int (gGo_14 0 5)) (C := R_Go) (T := F_Go) (N := 6) hx hb hts i_Go hown hK hP 0 rfl rfl 5 (by decide) (hts _ m_61) (fun _ h9 => h9) rfl d_Go_add_90 ?_
  refine lv_iconst (v := 1) hx hb d_Go_add_93 (by decide) ?_
  refine lv_iadd hx hb d_Go_add_94 ?_
  refine va_put (ci := 2) (v := .int ((gGo_14 0 5) + 1)) (ty := .int) (C := R_Go) (T := F_Go) (N := 6) hx hb hts i_Go t_Go o_Go n_Go hown hK hP hD hS 0 rfl rfl 5 (by decide) (hts _ m_61) (fun _ h9 => h9) rfl (by decide +kernel) rfl rfl (Nat.le_of_ble_eq_true rfl) d_Go_add_95 (fun H locs hP hD hS => ?_)
  obtain ⟨gGo_15, egGo_15, h⟩ := letb_i h
  have hP : va_P D vwCl (wGo xGo cI cZ gGo_15) H := by rw [egGo_15, u_Go_0_5]; exact hP
  have hD : va_D A (wGo xGo cI cZ gGo_15) := by rw [egGo_15, u_Go_0_5]; exact hD
  refine lv_aload_n hx hb d_Go_add_98 rfl (lv_at hl 1 rfl) ?_
  refine va_get (ci := 2) (v := .int (gGo_15 0 5)) (C := R_Go) (T := F_Go) (N := 6) hx hb hts i_Go hown hK hP 0 rfl rfl 5 (by decide) (hts _ m_61) (fun _ h9 => h9) rfl d_Go_add_99 ?_
  refine lv_iconst (v := 1) hx hb d_Go_add_102 (by decide) ?_
  refine lv_isub hx hb d_Go_add_103 ?_
  cases h
  rw [hQ]
  exact mi_ret C0 hr rfl hlk hP hD hS d_Go_add_104
abbrev rm_Go_add_t : Room := { frames := 7, cells := 1, slots := 6, locals := 104 }
set_option maxRecDepth 100000 in
set_option maxHeartbeats 4000000 in
theorem c_Go_add_t (l : Launch) (hltr : l.stackTraces = false) (D : va_G) (cI cZ cJ : ClassId) (xGo : Nat → Nat) (sz : Nat) (gGo : St) (p1 : Int32) (p2 : Int32) (p3 : Int32) (p4 : Int32) (E : String) (h : f_Go_add gGo p1 p2 p3 p4 = some (.inr E)) : MT l y_Go_add b_Go_add 6 (some .int) rm_Go_add_t D (TYS cI cZ cJ) [.ref (xGo 0), .int p1, .int p2, .int p3, .int p4] (wGo xGo cI cZ gGo) sz E := by
  refine mt_start (own := R_Go) (by decide +kernel) rfl (Nat.le_of_ble_eq_true rfl) (fun p e s m args below meth c A ls C0 hAe hno hlk hP hD hS hl => ?_)
  obtain ⟨Q, hQ⟩ : ∃ Q, Q = QT below D (TYS cI cZ cJ) (wGo xGo cI cZ gGo) E args s := ⟨_, rfl⟩
  rw [← hQ]
  obtain ⟨hx, hb, -, hown, hts, hK, hE, -⟩ := id C0
  have hl : lv_has ls 6 [(0, .ref (xGo 0)), (1, .int p1), (2, .int p2), (3, .int p3), (4, .int p4)] := hl
  obtain ⟨H, hH⟩ : ∃ H, H = s.heap := ⟨_, rfl⟩
  have hP : va_P D vwCl (wGo xGo cI cZ gGo) H := by rw [hH]; exact hP
  have hS : va_S A s.heap H [] := by rw [hH]; exact hS
  rw [show W p l e rm_Go_add_t s m args below meth c s.heap = W p l e rm_Go_add_t s m args below meth c H by rw [hH]]
  generalize ([] : List Loc) = locs at hS ⊢
  unfold f_Go_add at h
  refine lv_aload_n hx hb d_Go_add_0 rfl (lv_at hl 0 rfl) ?_
  refine va_get (ci := 2) (v := .int (gGo 0 5)) (C := R_Go) (T := F_Go) (N := 6) hx hb hts i_Go hown hK hP 0 rfl rfl 5 (by decide) (hts _ m_61) (fun _ h9 => h9) rfl d_Go_add_1 ?_
  refine lv_bipush (v := 6) hx hb d_Go_add_4 (by decide) ?_
  obtain ⟨hc_1, h⟩ | ⟨E9, hc_1, h⟩ := xc0_i h
  rotate_left
  · cases h
    rw [hQ]
    exact x_out C0 hAe hno hlk hP hD hS [] rfl rfl rfl (rN (As := [.int (gGo 0 5), .int 6]) (rest := []) C0 hP hD hS hl.1 [] (c_Cc_requireRoom_t l hltr D cI cZ cJ  H.size (gGo 0 5) 6 E hc_1) k_Cc_requireRoom (List.mem_of_getElem? (i := 0) rfl) rfl rfl ⟨by decide, by decide⟩ ⟨rfl, rfl⟩ rfl (Nat.le_of_ble_eq_true rfl) d_Go_add_6 ⟨by decide, by decide⟩) ⟨rfl, rfl⟩
  refine cNv (ws' := (wGo xGo cI cZ gGo)) (As := [.int (gGo 0 5), .int 6]) (rest := []) C0 hP hD hS hl.1 [] (c_Cc_requireRoom_r l D cI cZ cJ  H.size (gGo 0 5) 6 hc_1) k_Cc_requireRoom (List.mem_of_getElem? (i := 0) rfl) rfl rfl rfl (rp_same rfl) ⟨by decide, by decide⟩ ⟨rfl, rfl⟩ rfl (Nat.le_of_ble_eq_true rfl) d_Go_add_6 ⟨Nat.zero_le _, Nat.zero_le _⟩ (fun H locs hP hD hS => ?_)
  refine lv_iload_n hx hb d_Go_add_9 rfl (lv_at hl 1 rfl) ?_
  refine lv_iconst (v := 1) hx hb d_Go_add_10 (by decide) ?_
  refine lv_sipush (v := 200) hx hb d_Go_add_11 (by decide) ?_
  obtain ⟨hc_2, h⟩ | ⟨E9, hc_2, h⟩ := xc0_i h
  rotate_left
  · cases h
    rw [hQ]
    exact x_out C0 hAe hno hlk hP hD hS [] rfl rfl rfl (rN (As := [.int p1, .int 1, .int 200]) (rest := []) C0 hP hD hS hl.1 [] (c_Cc_requireRange_t l hltr D cI cZ cJ  H.size p1 1 200 E hc_2) k_Cc_requireRange (List.mem_of_getElem? (i := 1) rfl) rfl rfl ⟨by decide, by decide⟩ ⟨rfl, rfl⟩ rfl (Nat.le_of_ble_eq_true rfl) d_Go_add_14 ⟨by decide, by decide⟩) ⟨rfl, rfl⟩
  refine cNv (ws' := (wGo xGo cI cZ gGo)) (As := [.int p1, .int 1, .int 200]) (rest := []) C0 hP hD hS hl.1 [] (c_Cc_requireRange_r l D cI cZ cJ  H.size p1 1 200 hc_2) k_Cc_requireRange (List.mem_of_getElem? (i := 1) rfl) rfl rfl rfl (rp_same rfl) ⟨by decide, by decide⟩ ⟨rfl, rfl⟩ rfl (Nat.le_of_ble_eq_true rfl) d_Go_add_14 ⟨Nat.zero_le _, Nat.zero_le _⟩ (fun H locs hP hD hS => ?_)
  refine lv_iload_n hx hb d_Go_add_17 rfl (lv_at hl 2 rfl) ?_
  refine lv_iconst (v := 1) hx hb d_Go_add_18 (by decide) ?_
  refine lv_sipush (v := 200) hx hb d_Go_add_19 (by decide) ?_
  obtain ⟨hc_3, h⟩ | ⟨E9, hc_3, h⟩ := xc0_i h
  rotate_left
  · cases h
    rw [hQ]
    exact x_out C0 hAe hno hlk hP hD hS [] rfl rfl rfl (rN (As := [.int p2, .int 1, .int 200]) (rest := []) C0 hP hD hS hl.1 [] (c_Cc_requireRange_t l hltr D cI cZ cJ  H.size p2 1 200 E hc_3) k_Cc_requireRange (List.mem_of_getElem? (i := 1) rfl) rfl rfl ⟨by decide, by decide⟩ ⟨rfl, rfl⟩ rfl (Nat.le_of_ble_eq_true rfl) d_Go_add_22 ⟨by decide, by decide⟩) ⟨rfl, rfl⟩
  refine cNv (ws' := (wGo xGo cI cZ gGo)) (As := [.int p2, .int 1, .int 200]) (rest := []) C0 hP hD hS hl.1 [] (c_Cc_requireRange_r l D cI cZ cJ  H.size p2 1 200 hc_3) k_Cc_requireRange (List.mem_of_getElem? (i := 1) rfl) rfl rfl rfl (rp_same rfl) ⟨by decide, by decide⟩ ⟨rfl, rfl⟩ rfl (Nat.le_of_ble_eq_true rfl) d_Go_add_22 ⟨Nat.zero_le _, Nat.zero_le _⟩ (fun H locs hP hD hS => ?_)
  refine lv_iload_n hx hb d_Go_add_25 rfl (lv_at hl 3 rfl) ?_
  refine lv_iconst (v := 1) hx hb d_Go_add_26 (by decide) ?_
  refine lv_sipush (v := 200) hx hb d_Go_add_27 (by decide) ?_
  obtain ⟨hc_4, h⟩ | ⟨E9, hc_4, h⟩ := xc0_i h
  rotate_left
  · cases h
    rw [hQ]
    exact x_out C0 hAe hno hlk hP hD hS [] rfl rfl rfl (rN (As := [.int p3, .int 1, .int 200]) (rest := []) C0 hP hD hS hl.1 [] (c_Cc_requireRange_t l hltr D cI cZ cJ  H.size p3 1 200 E hc_4) k_Cc_requireRange (List.mem_of_getElem? (i := 1) rfl) rfl rfl ⟨by decide, by decide⟩ ⟨rfl, rfl⟩ rfl (Nat.le_of_ble_eq_true rfl) d_Go_add_30 ⟨by decide, by decide⟩) ⟨rfl, rfl⟩
  refine cNv (ws' := (wGo xGo cI cZ gGo)) (As := [.int p3, .int 1, .int 200]) (rest := []) C0 hP hD hS hl.1 [] (c_Cc_requireRange_r l D cI cZ cJ  H.size p3 1 200 hc_4) k_Cc_requireRange (List.mem_of_getElem? (i := 1) rfl) rfl rfl rfl (rp_same rfl) ⟨by decide, by decide⟩ ⟨rfl, rfl⟩ rfl (Nat.le_of_ble_eq_true rfl) d_Go_add_30 ⟨Nat.zero_le _, Nat.zero_le _⟩ (fun H locs hP hD hS => ?_)
  refine lv_iload hx hb d_Go_add_33 (lv_at hl 4 rfl) ?_
  refine lv_iconst (v := 1) hx hb d_Go_add_35 (by decide) ?_
  refine lv_ldc hx hb hown (hts _ m_331) d_Go_add_36 ?_
  obtain ⟨hc_5, h⟩ | ⟨E9, hc_5, h⟩ := xc0_i h
  rotate_left
  · cases h
    rw [hQ]
    exact x_out C0 hAe hno hlk hP hD hS [] rfl rfl rfl (rN (As := [.int p4, .int 1, .int 100000]) (rest := []) C0 hP hD hS hl.1 [] (c_Cc_requireRange_t l hltr D cI cZ cJ  H.size p4 1 100000 E hc_5) k_Cc_requireRange (List.mem_of_getElem? (i := 1) rfl) rfl rfl ⟨by decide, by decide⟩ ⟨rfl, rfl⟩ rfl (Nat.le_of_ble_eq_true rfl) d_Go_add_38 ⟨by decide, by decide⟩) ⟨rfl, rfl⟩
  refine cNv (ws' := (wGo xGo cI cZ gGo)) (As := [.int p4, .int 1, .int 100000]) (rest := []) C0 hP hD hS hl.1 [] (c_Cc_requireRange_r l D cI cZ cJ  H.size p4 1 100000 hc_5) k_Cc_requireRange (List.mem_of_getElem? (i := 1) rfl) rfl rfl rfl (rp_same rfl) ⟨by decide, by decide⟩ ⟨rfl, rfl⟩ rfl (Nat.le_of_ble_eq_true rfl) d_Go_add_38 ⟨Nat.zero_le _, Nat.zero_le _⟩ (fun H locs hP hD hS => ?_)
  refine lv_aload_n hx hb d_Go_add_41 rfl (lv_at hl 0 rfl) ?_
  refine va_get (ci := 2) (v := .int (gGo 0 5)) (C := R_Go) (T := F_Go) (N := 6) hx hb hts i_Go hown hK hP 0 rfl rfl 5 (by decide) (hts _ m_61) (fun _ h9 => h9) rfl d_Go_add_42 ?_
  refine lv_iconst (v := 3) hx hb d_Go_add_45 (by decide) ?_
  refine lv_imul hx hb d_Go_add_46 ?_
  obtain ⟨x_6, ex_6, h⟩ := letb_i h
  refine lv_topn ex_6 ?_
  refine lv_istore (lv' := [(5, .int x_6), (0, .ref (xGo 0)), (1, .int p1), (2, .int p2), (3, .int p3), (4, .int p4)]) hx hb d_Go_add_47 hl (by decide) rfl (fun ls hl => ?_)
  refine lv_aload_n hx hb d_Go_add_49 rfl (lv_at hl 1 rfl) ?_
  refine va_get (ci := 2) (v := .ref (xGo 1)) (C := R_Go) (T := F_Go) (N := 6) hx hb hts i_Go hown hK hP 0 rfl rfl 0 (by decide) (hts _ m_55) (fun _ h9 => h9) rfl d_Go_add_50 ?_
  refine lv_iload hx hb d_Go_add_53 (lv_at hl 0 rfl) ?_
  refine lv_iload_n hx hb d_Go_add_55 rfl (lv_at hl 2 rfl) ?_
  obtain ⟨hi_7, h⟩ := gb_i h
  refine va_iast hx hb hK hP hD hS 1 0 rfl rfl (inb_in hi_7) d_Go_add_56 (fun H locs hP hD hS => ?_)
  obtain ⟨gGo_8, egGo_8, h⟩ := letb_i h
  have hP : va_P D vwCl (wGo xGo cI cZ gGo_8) H := by rw [egGo_8, u_Go_1]; exact hP
  have hD : va_D A (wGo xGo cI cZ gGo_8) := by rw [egGo_8, u_Go_1]; exact hD
  refine lv_aload_n hx hb d_Go_add_57 rfl (lv_at hl 1 rfl) ?_
  refine va_get (ci := 2) (v := .ref (xGo 1)) (C := R_Go) (T := F_Go) (N := 6) hx hb hts i_Go hown hK hP 0 rfl rfl 0 (by decide) (hts _ m_55) (fun _ h9 => h9) rfl d_Go_add_58 ?_
  refine lv_iload hx hb d_Go_add_61 (lv_at hl 0 rfl) ?_
  refine lv_iconst (v := 1) hx hb d_Go_add_63 (by decide) ?_
  refine lv_iadd hx hb d_Go_add_64 ?_
  refine lv_iload_n hx hb d_Go_add_65 rfl (lv_at hl 3 rfl) ?_
  obtain ⟨hi_9, h⟩ := gb_i h
  refine va_iast hx hb hK hP hD hS 1 0 rfl rfl (inb_in hi_9) d_Go_add_66 (fun H locs hP hD hS => ?_)
  obtain ⟨gGo_10, egGo_10, h⟩ := letb_i h
  have hP : va_P D vwCl (wGo xGo cI cZ gGo_10) H := by rw [egGo_10, u_Go_1]; exact hP
  have hD : va_D A (wGo xGo cI cZ gGo_10) := by rw [egGo_10, u_Go_1]; exact hD
  refine lv_aload_n hx hb d_Go_add_67 rfl (lv_at hl 1 rfl) ?_
  refine va_get (ci := 2) (v := .ref (xGo 1)) (C := R_Go) (T := F_Go) (N := 6) hx hb hts i_Go hown hK hP 0 rfl rfl 0 (by decide) (hts _ m_55) (fun _ h9 => h9) rfl d_Go_add_68 ?_
  refine lv_iload hx hb d_Go_add_71 (lv_at hl 0 rfl) ?_
  refine lv_iconst (v := 2) hx hb d_Go_add_73 (by decide) ?_
  refine lv_iadd hx hb d_Go_add_74 ?_
  refine lv_iload_n hx hb d_Go_add_75 rfl (lv_at hl 4 rfl) ?_
  obtain ⟨hi_11, h⟩ := gb_i h
  refine va_iast hx hb hK hP hD hS 1 0 rfl rfl (inb_in hi_11) d_Go_add_76 (fun H locs hP hD hS => ?_)
  obtain ⟨gGo_12, egGo_12, h⟩ := letb_i h
  have hP : va_P D vwCl (wGo xGo cI cZ gGo_12) H := by rw [egGo_12, u_Go_1]; exact hP
  have hD : va_D A (wGo xGo cI cZ gGo_12) := by rw [egGo_12, u_Go_1]; exact hD
  refine lv_aload_n hx hb d_Go_add_77 rfl (lv_at hl 1 rfl) ?_
  refine va_get (ci := 2) (v := .ref (xGo 2)) (C := R_Go) (T := F_Go) (N := 6) hx hb hts i_Go hown hK hP 0 rfl rfl 1 (by decide) (hts _ m_57) (fun _ h9 => h9) rfl d_Go_add_78 ?_
  refine lv_aload_n hx hb d_Go_add_81 rfl (lv_at hl 1 rfl) ?_
  refine va_get (ci := 2) (v := .int (gGo_12 0 5)) (C := R_Go) (T := F_Go) (N := 6) hx hb hts i_Go hown hK hP 0 rfl rfl 5 (by decide) (hts _ m_61) (fun _ h9 => h9) rfl d_Go_add_82 ?_
  refine lv_iload hx hb d_Go_add_85 (lv_at hl 5 rfl) ?_
  obtain ⟨hi_13, h⟩ := gb_i h
  refine va_iast hx hb hK hP hD hS 2 0 rfl rfl (inb_in hi_13) d_Go_add_87 (fun H locs hP hD hS => ?_)
  obtain ⟨gGo_14, egGo_14, h⟩ := letb_i h
  have hP : va_P D vwCl (wGo xGo cI cZ gGo_14) H := by rw [egGo_14, u_Go_2]; exact hP
  have hD : va_D A (wGo xGo cI cZ gGo_14) := by rw [egGo_14, u_Go_2]; exact hD
  refine lv_aload_n hx hb d_Go_add_88 rfl (lv_at hl 1 rfl) ?_
  refine lv_dup hx hb d_Go_add_89 rfl ?_
  refine va_get (ci := 2) (v := .int (gGo_14 0 5)) (C := R_Go) (T := F_Go) (N := 6) hx hb hts i_Go hown hK hP 0 rfl rfl 5 (by decide) (hts _ m_61) (fun _ h9 => h9) rfl d_Go_add_90 ?_
  refine lv_iconst (v := 1) hx hb d_Go_add_93 (by decide) ?_
  refine lv_iadd hx hb d_Go_add_94 ?_
  refine va_put (ci := 2) (v := .int ((gGo_14 0 5) + 1)) (ty := .int) (C := R_Go) (T := F_Go) (N := 6) hx hb hts i_Go t_Go o_Go n_Go hown hK hP hD hS 0 rfl rfl 5 (by decide) (hts _ m_61) (fun _ h9 => h9) rfl (by decide +kernel) rfl rfl (Nat.le_of_ble_eq_true rfl) d_Go_add_95 (fun H locs hP hD hS => ?_)
  obtain ⟨gGo_15, egGo_15, h⟩ := letb_i h
  have hP : va_P D vwCl (wGo xGo cI cZ gGo_15) H := by rw [egGo_15, u_Go_0_5]; exact hP
  have hD : va_D A (wGo xGo cI cZ gGo_15) := by rw [egGo_15, u_Go_0_5]; exact hD
  refine lv_aload_n hx hb d_Go_add_98 rfl (lv_at hl 1 rfl) ?_
  refine va_get (ci := 2) (v := .int (gGo_15 0 5)) (C := R_Go) (T := F_Go) (N := 6) hx hb hts i_Go hown hK hP 0 rfl rfl 5 (by decide) (hts _ m_61) (fun _ h9 => h9) rfl d_Go_add_99 ?_
  refine lv_iconst (v := 1) hx hb d_Go_add_102 (by decide) ?_
  refine lv_isub hx hb d_Go_add_103 ?_
  cases h
abbrev rm_Go_setWeak_r : Room := { frames := 1, cells := 0, slots := 0, locals := 21 }
set_option maxRecDepth 100000 in
set_option maxHeartbeats 4000000 in
theorem c_Go_setWeak_r (l : Launch) (D : va_G) (cI cZ cJ : ClassId) (xGo : Nat → Nat) (sz : Nat) (gGo : St) (p1 : Int32) (p2 : Int32) (p3 : Int32) (r : Int32) (gGo1 : St) (h : f_Go_setWeak gGo p1 p2 p3 = some (.inl (r, gGo1))) : MI l y_Go_setWeak b_Go_setWeak 6 (some .boolean) rm_Go_setWeak_r D (TYS cI cZ cJ) [.ref (xGo 0), .int p1, .int p2, .int p3] (wGo xGo cI cZ gGo) sz r (wGo xGo cI cZ gGo1) := by
  refine mi_start (own := R_Go) (by decide +kernel) rfl (Nat.le_of_ble_eq_true rfl) (fun p e s m args below meth c A ls C0 hr hlk hP hD hS hl => ?_)
  obtain ⟨Q, hQ⟩ : ∃ Q, Q = QI below D (TYS cI cZ cJ) A (wGo xGo cI cZ gGo1) r args s := ⟨_, rfl⟩
  rw [← hQ]
  obtain ⟨hx, hb, -, hown, hts, hK, hE, -⟩ := id C0
  have hl : lv_has ls 6 [(0, .ref (xGo 0)), (1, .int p1), (2, .int p2), (3, .int p3)] := hl
  obtain ⟨H, hH⟩ : ∃ H, H = s.heap := ⟨_, rfl⟩
  have hP : va_P D vwCl (wGo xGo cI cZ gGo) H := by rw [hH]; exact hP
  have hS : va_S A s.heap H [] := by rw [hH]; exact hS
  rw [show W p l e rm_Go_setWeak_r s m args below meth c s.heap = W p l e rm_Go_setWeak_r s m args below meth c H by rw [hH]]
  generalize ([] : List Loc) = locs at hS ⊢
  unfold f_Go_setWeak at h
  refine lv_iload_n hx hb d_Go_setWeak_0 rfl (lv_at hl 1 rfl) ?_
  refine lv_aload_n hx hb d_Go_setWeak_1 rfl (lv_at hl 0 rfl) ?_
  refine va_get (ci := 2) (v := .int (gGo 0 5)) (C := R_Go) (T := F_Go) (N := 6) hx hb hts i_Go hown hK hP 0 rfl rfl 5 (by decide) (hts _ m_61) (fun _ h9 => h9) rfl d_Go_setWeak_2 ?_
  obtain ⟨hc_1, h⟩ | ⟨E9, hc_1, h⟩ := xc0_i h
  rotate_left
  · cases h
  refine cNv (ws' := (wGo xGo cI cZ gGo)) (As := [.int p1, .int (gGo 0 5)]) (rest := []) C0 hP hD hS hl.1 [] (c_Cc_requireIndex_r l D cI cZ cJ  H.size p1 (gGo 0 5) hc_1) k_Cc_requireIndex (List.mem_of_getElem? (i := 2) rfl) rfl rfl rfl (rp_same rfl) ⟨by decide, by decide⟩ ⟨rfl, rfl⟩ rfl (Nat.le_of_ble_eq_true rfl) d_Go_setWeak_5 ⟨Nat.zero_le _, Nat.zero_le _⟩ (fun H locs hP hD hS => ?_)
  refine lv_iload_n hx hb d_Go_setWeak_8 rfl (lv_at hl 2 rfl) ?_
  refine lv_bipush (v := 6) hx hb d_Go_setWeak_9 (by decide) ?_
  obtain ⟨hc_2, h⟩ | ⟨E9, hc_2, h⟩ := xc0_i h
  rotate_left
  · cases h
  refine cNv (ws' := (wGo xGo cI cZ gGo)) (As := [.int p2, .int 6]) (rest := []) C0 hP hD hS hl.1 [] (c_Cc_requireIndex_r l D cI cZ cJ  H.size p2 6 hc_2) k_Cc_requireIndex (List.mem_of_getElem? (i := 2) rfl) rfl rfl rfl (rp_same rfl) ⟨by decide, by decide⟩ ⟨rfl, rfl⟩ rfl (Nat.le_of_ble_eq_true rfl) d_Go_setWeak_11 ⟨Nat.zero_le _, Nat.zero_le _⟩ (fun H locs hP hD hS => ?_)
  refine lv_iconst (v := 1) hx hb d_Go_setWeak_14 (by decide) ?_
  refine lv_iload_n hx hb d_Go_setWeak_15 rfl (lv_at hl 2 rfl) ?_
  refine lv_ishl hx hb d_Go_setWeak_16 ?_
  obtain ⟨x_3, ex_3, h⟩ := letb_i h
  refine lv_topn ex_3 ?_
  refine lv_istore (lv' := [(4, .int x_3), (0, .ref (xGo 0)), (1, .int p1), (2, .int p2), (3, .int p3)]) hx hb d_Go_setWeak_17 hl (by decide) rfl (fun ls hl => ?_)
  refine lv_aload_n hx hb d_Go_setWeak_19 rfl (lv_at hl 1 rfl) ?_
  refine va_get (ci := 2) (v := .ref (xGo 3)) (C := R_Go) (T := F_Go) (N := 6) hx hb hts i_Go hown hK hP 0 rfl rfl 2 (by decide) (hts _ m_58) (fun _ h9 => h9) rfl d_Go_setWeak_20 ?_
  refine lv_iload_n hx hb d_Go_setWeak_23 rfl (lv_at hl 2 rfl) ?_
  obtain ⟨hi_4, h⟩ := gb_i h
  refine va_iald hx hb hK hP 3 0 rfl rfl (inb_in hi_4) d_Go_setWeak_24 ?_
  obtain ⟨x_5, ex_5, h⟩ := letb_i h
  refine lv_topn ex_5 ?_
  refine lv_iload hx hb d_Go_setWeak_25 (lv_at hl 0 rfl) ?_
  refine lv_iand hx hb d_Go_setWeak_27 ?_
  have K36 : ∀ (s0_36 : Int32) (v4_36 : Int32) (H : Heap) (locs : List Loc) (ls : Array Slot), va_P D vwCl (wGo xGo cI cZ gGo) H → va_D A (wGo xGo cI cZ gGo) → va_S A s.heap H locs → lv_has ls 6 [(0, .ref (xGo 0)), (1, .int p1), (2, .int p2), (3, .int p3), (4, .int v4_36)] → f_Go_setWeak_J36 gGo p1 p3 s0_36 v4_36 = some (.inl (r, gGo1)) → W p l e rm_Go_setWeak_r s m args below meth c H locs 0 0 Q (F0 m 36 ls [.int s0_36]) := by
    intro s0_36 v4_36 H locs ls hP hD hS hl h
    unfold f_Go_setWeak_J36 at h
    refine lv_istore (lv' := [(5, .int s0_36), (0, .ref (xGo 0)), (1, .int p1), (2, .int p2), (3, .int p3), (4, .int v4_36)]) hx hb d_Go_setWeak_36 hl (by decide) rfl (fun ls hl => ?_)
    refine lv_aload_n hx hb d_Go_setWeak_38 rfl (lv_at hl 1 rfl) ?_
    refine va_get (ci := 2) (v := .ref (xGo 3)) (C := R_Go) (T := F_Go) (N := 6) hx hb hts i_Go hown hK hP 0 rfl rfl 2 (by decide) (hts _ m_58) (fun _ h9 => h9) rfl d_Go_setWeak_39 ?_
    refine lv_iload_n hx hb d_Go_setWeak_42 rfl (lv_at hl 2 rfl) ?_
    refine lv_iload_n hx hb d_Go_setWeak_43 rfl (lv_at hl 4 rfl) ?_
    have K70 : ∀ (s1_70 : Int32) (s2_70 : Int32) (v4_70 : Int32) (v5_70 : Int32) (H : Heap) (locs : List Loc) (ls : Array Slot), va_P D vwCl (wGo xGo cI cZ gGo) H → va_D A (wGo xGo cI cZ gGo) → va_S A s.heap H locs → lv_has ls 6 [(0, .ref (xGo 0)), (1, .int p1), (2, .int p2), (3, .int p3), (4, .int v4_70), (5, .int v5_70)] → f_Go_setWeak_J70 gGo p3 s1_70 s2_70 v4_70 v5_70 = some (.inl (r, gGo1)) → W p l e rm_Go_setWeak_r s m args below meth c H locs 0 0 Q (F0 m 70 ls [.int s2_70, .int s1_70, .ref (xGo 3)]) := by
      intro s1_70 s2_70 v4_70 v5_70 H locs ls hP hD hS hl h
      unfold f_Go_setWeak_J70 at h
      obtain ⟨hi_6, h⟩ := gb_i h
      refine va_iast hx hb hK hP hD hS 3 0 rfl rfl (inb_in hi_6) d_Go_setWeak_70 (fun H locs hP hD hS => ?_)
      obtain ⟨gGo_7, egGo_7, h⟩ := letb_i h
      have hP : va_P D vwCl (wGo xGo cI cZ gGo_7) H := by rw [egGo_7, u_Go_3]; exact hP
      have hD : va_D A (wGo xGo cI cZ gGo_7) := by rw [egGo_7, u_Go_3]; exact hD
      refine lv_iload hx hb d_Go_setWeak_71 (lv_at hl 5 rfl) ?_
      refine lv_iload_n hx hb d_Go_setWeak_73 rfl (lv_at hl 3 rfl) ?_
      refine lv_icmp_eq (tgt := 81) hx hb d_Go_setWeak_74 (by decide) (fun c_8 => ?_) (fun c_8 => ?_)
      · rw [if_pos c_8] at h
        refine lv_iconst (v := 0) hx hb d_Go_setWeak_81 (by decide) ?_
        cases h
        rw [hQ]
        exact mi_ret C0 hr rfl hlk hP hD hS d_Go_setWeak_82
      · rw [if_neg c_8] at h
        refine lv_iconst (v := 1) hx hb d_Go_setWeak_77 (by decide) ?_
        refine lv_goto (tgt := 82) hx hb d_Go_setWeak_78 (by decide) ?_
        cases h
        rw [hQ]
        exact mi_ret C0 hr rfl hlk hP hD hS d_Go_setWeak_82
    refine lv_if_eq (tgt := 59) hx hb d_Go_setWeak_44 (by decide) (fun c_9 => ?_) (fun c_9 => ?_)
    · rw [if_pos c_9] at h
      refine lv_aload_n hx hb d_Go_setWeak_59 rfl (lv_at hl 1 rfl) ?_
      refine va_get (ci := 2) (v := .ref (xGo 3)) (C := R_Go) (T := F_Go) (N := 6) hx hb hts i_Go hown hK hP 0 rfl rfl 2 (by decide) (hts _ m_58) (fun _ h9 => h9) rfl d_Go_setWeak_60 ?_
      refine lv_iload_n hx hb d_Go_setWeak_63 rfl (lv_at hl 2 rfl) ?_
      obtain ⟨hi_10, h⟩ := gb_i h
      refine va_iald hx hb hK hP 3 0 rfl rfl (inb_in hi_10) d_Go_setWeak_64 ?_
      obtain ⟨x_11, ex_11, h⟩ := letb_i h
      refine lv_topn ex_11 ?_
      refine lv_iload hx hb d_Go_setWeak_65 (lv_at hl 5 rfl) ?_
      refine lv_iconst (v := (-1)) hx hb d_Go_setWeak_67 (by decide) ?_
      refine lv_ixor hx hb d_Go_setWeak_68 ?_
      refine lv_iand hx hb d_Go_setWeak_69 ?_
      exact K70 p1 (x_11 &&& (v4_36 ^^^ (-1))) v4_36 s0_36 H locs ls hP hD hS (lv_sub hl [1, 2, 3, 4, 5, 0] rfl) h
    · rw [if_neg c_9] at h
      refine lv_aload_n hx hb d_Go_setWeak_47 rfl (lv_at hl 1 rfl) ?_
      refine va_get (ci := 2) (v := .ref (xGo 3)) (C := R_Go) (T := F_Go) (N := 6) hx hb hts i_Go hown hK hP 0 rfl rfl 2 (by decide) (hts _ m_58) (fun _ h9 => h9) rfl d_Go_setWeak_48 ?_
      refine lv_iload_n hx hb d_Go_setWeak_51 rfl (lv_at hl 2 rfl) ?_
      obtain ⟨hi_12, h⟩ := gb_i h
      refine va_iald hx hb hK hP 3 0 rfl rfl (inb_in hi_12) d_Go_setWeak_52 ?_
      obtain ⟨x_13, ex_13, h⟩ := letb_i h
      refine lv_topn ex_13 ?_
      refine lv_iload hx hb d_Go_setWeak_53 (lv_at hl 5 rfl) ?_
      refine lv_ior hx hb d_Go_setWeak_55 ?_
      refine lv_goto (tgt := 70) hx hb d_Go_setWeak_56 (by decide) ?_
      exact K70 p1 (x_13 ||| v4_36) v4_36 s0_36 H locs ls hP hD hS (lv_sub hl [1, 2, 3, 4, 5, 0] rfl) h
  refine lv_if_eq (tgt := 35) hx hb d_Go_setWeak_28 (by decide) (fun c_14 => ?_) (fun c_14 => ?_)
  · rw [if_pos c_14] at h
    refine lv_iconst (v := 0) hx hb d_Go_setWeak_35 (by decide) ?_
    exact K36 0 x_3 H locs ls hP hD hS (lv_sub hl [1, 2, 3, 4, 0] rfl) h
  · rw [if_neg c_14] at h
    refine lv_iconst (v := 1) hx hb d_Go_setWeak_31 (by decide) ?_
    refine lv_goto (tgt := 36) hx hb d_Go_setWeak_32 (by decide) ?_
    exact K36 1 x_3 H locs ls hP hD hS (lv_sub hl [1, 2, 3, 4, 0] rfl) h
abbrev rm_Go_setWeak_t : Room := { frames := 7, cells := 1, slots := 6, locals := 103 }
set_option maxRecDepth 100000 in
set_option maxHeartbeats 4000000 in
theorem c_Go_setWeak_t (l : Launch) (hltr : l.stackTraces = false) (D : va_G) (cI cZ cJ : ClassId) (xGo : Nat → Nat) (sz : Nat) (gGo : St) (p1 : Int32) (p2 : Int32) (p3 : Int32) (E : String) (h : f_Go_setWeak gGo p1 p2 p3 = some (.inr E)) : MT l y_Go_setWeak b_Go_setWeak 6 (some .boolean) rm_Go_setWeak_t D (TYS cI cZ cJ) [.ref (xGo 0), .int p1, .int p2, .int p3] (wGo xGo cI cZ gGo) sz E := by
  refine mt_start (own := R_Go) (by decide +kernel) rfl (Nat.le_of_ble_eq_true rfl) (fun p e s m args below meth c A ls C0 hAe hno hlk hP hD hS hl => ?_)
  obtain ⟨Q, hQ⟩ : ∃ Q, Q = QT below D (TYS cI cZ cJ) (wGo xGo cI cZ gGo) E args s := ⟨_, rfl⟩
  rw [← hQ]
  obtain ⟨hx, hb, -, hown, hts, hK, hE, -⟩ := id C0
  have hl : lv_has ls 6 [(0, .ref (xGo 0)), (1, .int p1), (2, .int p2), (3, .int p3)] := hl
  obtain ⟨H, hH⟩ : ∃ H, H = s.heap := ⟨_, rfl⟩
  have hP : va_P D vwCl (wGo xGo cI cZ gGo) H := by rw [hH]; exact hP
  have hS : va_S A s.heap H [] := by rw [hH]; exact hS
  rw [show W p l e rm_Go_setWeak_t s m args below meth c s.heap = W p l e rm_Go_setWeak_t s m args below meth c H by rw [hH]]
  generalize ([] : List Loc) = locs at hS ⊢
  unfold f_Go_setWeak at h
  refine lv_iload_n hx hb d_Go_setWeak_0 rfl (lv_at hl 1 rfl) ?_
  refine lv_aload_n hx hb d_Go_setWeak_1 rfl (lv_at hl 0 rfl) ?_
  refine va_get (ci := 2) (v := .int (gGo 0 5)) (C := R_Go) (T := F_Go) (N := 6) hx hb hts i_Go hown hK hP 0 rfl rfl 5 (by decide) (hts _ m_61) (fun _ h9 => h9) rfl d_Go_setWeak_2 ?_
  obtain ⟨hc_1, h⟩ | ⟨E9, hc_1, h⟩ := xc0_i h
  rotate_left
  · cases h
    rw [hQ]
    exact x_out C0 hAe hno hlk hP hD hS [] rfl rfl rfl (rN (As := [.int p1, .int (gGo 0 5)]) (rest := []) C0 hP hD hS hl.1 [] (c_Cc_requireIndex_t l hltr D cI cZ cJ  H.size p1 (gGo 0 5) E hc_1) k_Cc_requireIndex (List.mem_of_getElem? (i := 2) rfl) rfl rfl ⟨by decide, by decide⟩ ⟨rfl, rfl⟩ rfl (Nat.le_of_ble_eq_true rfl) d_Go_setWeak_5 ⟨by decide, by decide⟩) ⟨rfl, rfl⟩
  refine cNv (ws' := (wGo xGo cI cZ gGo)) (As := [.int p1, .int (gGo 0 5)]) (rest := []) C0 hP hD hS hl.1 [] (c_Cc_requireIndex_r l D cI cZ cJ  H.size p1 (gGo 0 5) hc_1) k_Cc_requireIndex (List.mem_of_getElem? (i := 2) rfl) rfl rfl rfl (rp_same rfl) ⟨by decide, by decide⟩ ⟨rfl, rfl⟩ rfl (Nat.le_of_ble_eq_true rfl) d_Go_setWeak_5 ⟨Nat.zero_le _, Nat.zero_le _⟩ (fun H locs hP hD hS => ?_)
  refine lv_iload_n hx hb d_Go_setWeak_8 rfl (lv_at hl 2 rfl) ?_
  refine lv_bipush (v := 6) hx hb d_Go_setWeak_9 (by decide) ?_
  obtain ⟨hc_2, h⟩ | ⟨E9, hc_2, h⟩ := xc0_i h
  rotate_left
  · cases h
    rw [hQ]
    exact x_out C0 hAe hno hlk hP hD hS [] rfl rfl rfl (rN (As := [.int p2, .int 6]) (rest := []) C0 hP hD hS hl.1 [] (c_Cc_requireIndex_t l hltr D cI cZ cJ  H.size p2 6 E hc_2) k_Cc_requireIndex (List.mem_of_getElem? (i := 2) rfl) rfl rfl ⟨by decide, by decide⟩ ⟨rfl, rfl⟩ rfl (Nat.le_of_ble_eq_true rfl) d_Go_setWeak_11 ⟨by decide, by decide⟩) ⟨rfl, rfl⟩
  refine cNv (ws' := (wGo xGo cI cZ gGo)) (As := [.int p2, .int 6]) (rest := []) C0 hP hD hS hl.1 [] (c_Cc_requireIndex_r l D cI cZ cJ  H.size p2 6 hc_2) k_Cc_requireIndex (List.mem_of_getElem? (i := 2) rfl) rfl rfl rfl (rp_same rfl) ⟨by decide, by decide⟩ ⟨rfl, rfl⟩ rfl (Nat.le_of_ble_eq_true rfl) d_Go_setWeak_11 ⟨Nat.zero_le _, Nat.zero_le _⟩ (fun H locs hP hD hS => ?_)
  refine lv_iconst (v := 1) hx hb d_Go_setWeak_14 (by decide) ?_
  refine lv_iload_n hx hb d_Go_setWeak_15 rfl (lv_at hl 2 rfl) ?_
  refine lv_ishl hx hb d_Go_setWeak_16 ?_
  obtain ⟨x_3, ex_3, h⟩ := letb_i h
  refine lv_topn ex_3 ?_
  refine lv_istore (lv' := [(4, .int x_3), (0, .ref (xGo 0)), (1, .int p1), (2, .int p2), (3, .int p3)]) hx hb d_Go_setWeak_17 hl (by decide) rfl (fun ls hl => ?_)
  refine lv_aload_n hx hb d_Go_setWeak_19 rfl (lv_at hl 1 rfl) ?_
  refine va_get (ci := 2) (v := .ref (xGo 3)) (C := R_Go) (T := F_Go) (N := 6) hx hb hts i_Go hown hK hP 0 rfl rfl 2 (by decide) (hts _ m_58) (fun _ h9 => h9) rfl d_Go_setWeak_20 ?_
  refine lv_iload_n hx hb d_Go_setWeak_23 rfl (lv_at hl 2 rfl) ?_
  obtain ⟨hi_4, h⟩ := gb_i h
  refine va_iald hx hb hK hP 3 0 rfl rfl (inb_in hi_4) d_Go_setWeak_24 ?_
  obtain ⟨x_5, ex_5, h⟩ := letb_i h
  refine lv_topn ex_5 ?_
  refine lv_iload hx hb d_Go_setWeak_25 (lv_at hl 0 rfl) ?_
  refine lv_iand hx hb d_Go_setWeak_27 ?_
  have K36 : ∀ (s0_36 : Int32) (v4_36 : Int32) (H : Heap) (locs : List Loc) (ls : Array Slot), va_P D vwCl (wGo xGo cI cZ gGo) H → va_D A (wGo xGo cI cZ gGo) → va_S A s.heap H locs → lv_has ls 6 [(0, .ref (xGo 0)), (1, .int p1), (2, .int p2), (3, .int p3), (4, .int v4_36)] → f_Go_setWeak_J36 gGo p1 p3 s0_36 v4_36 = some (.inr E) → W p l e rm_Go_setWeak_t s m args below meth c H locs 0 0 Q (F0 m 36 ls [.int s0_36]) := by
    intro s0_36 v4_36 H locs ls hP hD hS hl h
    unfold f_Go_setWeak_J36 at h
    refine lv_istore (lv' := [(5, .int s0_36), (0, .ref (xGo 0)), (1, .int p1), (2, .int p2), (3, .int p3), (4, .int v4_36)]) hx hb d_Go_setWeak_36 hl (by decide) rfl (fun ls hl => ?_)
    refine lv_aload_n hx hb d_Go_setWeak_38 rfl (lv_at hl 1 rfl) ?_
    refine va_get (ci := 2) (v := .ref (xGo 3)) (C := R_Go) (T := F_Go) (N := 6) hx hb hts i_Go hown hK hP 0 rfl rfl 2 (by decide) (hts _ m_58) (fun _ h9 => h9) rfl d_Go_setWeak_39 ?_
    refine lv_iload_n hx hb d_Go_setWeak_42 rfl (lv_at hl 2 rfl) ?_
    refine lv_iload_n hx hb d_Go_setWeak_43 rfl (lv_at hl 4 rfl) ?_
    have K70 : ∀ (s1_70 : Int32) (s2_70 : Int32) (v4_70 : Int32) (v5_70 : Int32) (H : Heap) (locs : List Loc) (ls : Array Slot), va_P D vwCl (wGo xGo cI cZ gGo) H → va_D A (wGo xGo cI cZ gGo) → va_S A s.heap H locs → lv_has ls 6 [(0, .ref (xGo 0)), (1, .int p1), (2, .int p2), (3, .int p3), (4, .int v4_70), (5, .int v5_70)] → f_Go_setWeak_J70 gGo p3 s1_70 s2_70 v4_70 v5_70 = some (.inr E) → W p l e rm_Go_setWeak_t s m args below meth c H locs 0 0 Q (F0 m 70 ls [.int s2_70, .int s1_70, .ref (xGo 3)]) := by
      intro s1_70 s2_70 v4_70 v5_70 H locs ls hP hD hS hl h
      unfold f_Go_setWeak_J70 at h
      obtain ⟨hi_6, h⟩ := gb_i h
      refine va_iast hx hb hK hP hD hS 3 0 rfl rfl (inb_in hi_6) d_Go_setWeak_70 (fun H locs hP hD hS => ?_)
      obtain ⟨gGo_7, egGo_7, h⟩ := letb_i h
      have hP : va_P D vwCl (wGo xGo cI cZ gGo_7) H := by rw [egGo_7, u_Go_3]; exact hP
      have hD : va_D A (wGo xGo cI cZ gGo_7) := by rw [egGo_7, u_Go_3]; exact hD
      refine lv_iload hx hb d_Go_setWeak_71 (lv_at hl 5 rfl) ?_
      refine lv_iload_n hx hb d_Go_setWeak_73 rfl (lv_at hl 3 rfl) ?_
      refine lv_icmp_eq (tgt := 81) hx hb d_Go_setWeak_74 (by decide) (fun c_8 => ?_) (fun c_8 => ?_)
      · rw [if_pos c_8] at h
        refine lv_iconst (v := 0) hx hb d_Go_setWeak_81 (by decide) ?_
        cases h
      · rw [if_neg c_8] at h
        refine lv_iconst (v := 1) hx hb d_Go_setWeak_77 (by decide) ?_
        refine lv_goto (tgt := 82) hx hb d_Go_setWeak_78 (by decide) ?_
        cases h
    refine lv_if_eq (tgt := 59) hx hb d_Go_setWeak_44 (by decide) (fun c_9 => ?_) (fun c_9 => ?_)
    · rw [if_pos c_9] at h
      refine lv_aload_n hx hb d_Go_setWeak_59 rfl (lv_at hl 1 rfl) ?_
      refine va_get (ci := 2) (v := .ref (xGo 3)) (C := R_Go) (T := F_Go) (N := 6) hx hb hts i_Go hown hK hP 0 rfl rfl 2 (by decide) (hts _ m_58) (fun _ h9 => h9) rfl d_Go_setWeak_60 ?_
      refine lv_iload_n hx hb d_Go_setWeak_63 rfl (lv_at hl 2 rfl) ?_
      obtain ⟨hi_10, h⟩ := gb_i h
      refine va_iald hx hb hK hP 3 0 rfl rfl (inb_in hi_10) d_Go_setWeak_64 ?_
      obtain ⟨x_11, ex_11, h⟩ := letb_i h
      refine lv_topn ex_11 ?_
      refine lv_iload hx hb d_Go_setWeak_65 (lv_at hl 5 rfl) ?_
      refine lv_iconst (v := (-1)) hx hb d_Go_setWeak_67 (by decide) ?_
      refine lv_ixor hx hb d_Go_setWeak_68 ?_
      refine lv_iand hx hb d_Go_setWeak_69 ?_
      exact K70 p1 (x_11 &&& (v4_36 ^^^ (-1))) v4_36 s0_36 H locs ls hP hD hS (lv_sub hl [1, 2, 3, 4, 5, 0] rfl) h
    · rw [if_neg c_9] at h
      refine lv_aload_n hx hb d_Go_setWeak_47 rfl (lv_at hl 1 rfl) ?_
      refine va_get (ci := 2) (v := .ref (xGo 3)) (C := R_Go) (T := F_Go) (N := 6) hx hb hts i_Go hown hK hP 0 rfl rfl 2 (by decide) (hts _ m_58) (fun _ h9 => h9) rfl d_Go_setWeak_48 ?_
      refine lv_iload_n hx hb d_Go_setWeak_51 rfl (lv_at hl 2 rfl) ?_
      obtain ⟨hi_12, h⟩ := gb_i h
      refine va_iald hx hb hK hP 3 0 rfl rfl (inb_in hi_12) d_Go_setWeak_52 ?_
      obtain ⟨x_13, ex_13, h⟩ := letb_i h
      refine lv_topn ex_13 ?_
      refine lv_iload hx hb d_Go_setWeak_53 (lv_at hl 5 rfl) ?_
      refine lv_ior hx hb d_Go_setWeak_55 ?_
      refine lv_goto (tgt := 70) hx hb d_Go_setWeak_56 (by decide) ?_
      exact K70 p1 (x_13 ||| v4_36) v4_36 s0_36 H locs ls hP hD hS (lv_sub hl [1, 2, 3, 4, 5, 0] rfl) h
  refine lv_if_eq (tgt := 35) hx hb d_Go_setWeak_28 (by decide) (fun c_14 => ?_) (fun c_14 => ?_)
  · rw [if_pos c_14] at h
    refine lv_iconst (v := 0) hx hb d_Go_setWeak_35 (by decide) ?_
    exact K36 0 x_3 H locs ls hP hD hS (lv_sub hl [1, 2, 3, 4, 0] rfl) h
  · rw [if_neg c_14] at h
    refine lv_iconst (v := 1) hx hb d_Go_setWeak_31 (by decide) ?_
    refine lv_goto (tgt := 36) hx hb d_Go_setWeak_32 (by decide) ?_
    exact K36 1 x_3 H locs ls hP hD hS (lv_sub hl [1, 2, 3, 4, 0] rfl) h
abbrev rm_Go_mayStandAnyhow_r : Room := { frames := 0, cells := 0, slots := 0, locals := 0 }
set_option maxRecDepth 100000 in
set_option maxHeartbeats 4000000 in
theorem c_Go_mayStandAnyhow_r (l : Launch) (D : va_G) (cI cZ cJ : ClassId) (xGo : Nat → Nat) (sz : Nat) (gGo : St) (p1 : Int32) (r : Int32) (h : f_Go_mayStandAnyhow gGo p1 = some r) : MI l y_Go_mayStandAnyhow b_Go_mayStandAnyhow 2 (some .boolean) rm_Go_mayStandAnyhow_r D (TYS cI cZ cJ) [.ref (xGo 0), .int p1] (wGo xGo cI cZ gGo) sz r (wGo xGo cI cZ gGo) := by
  refine mi_start (own := R_Go) (by decide +kernel) rfl (Nat.le_of_ble_eq_true rfl) (fun p e s m args below meth c A ls C0 hr hlk hP hD hS hl => ?_)
  obtain ⟨Q, hQ⟩ : ∃ Q, Q = QI below D (TYS cI cZ cJ) A (wGo xGo cI cZ gGo) r args s := ⟨_, rfl⟩
  rw [← hQ]
  obtain ⟨hx, hb, -, hown, hts, hK, hE, -⟩ := id C0
  have hl : lv_has ls 2 [(0, .ref (xGo 0)), (1, .int p1)] := hl
  obtain ⟨H, hH⟩ : ∃ H, H = s.heap := ⟨_, rfl⟩
  have hP : va_P D vwCl (wGo xGo cI cZ gGo) H := by rw [hH]; exact hP
  have hS : va_S A s.heap H [] := by rw [hH]; exact hS
  rw [show W p l e rm_Go_mayStandAnyhow_r s m args below meth c s.heap = W p l e rm_Go_mayStandAnyhow_r s m args below meth c H by rw [hH]]
  generalize ([] : List Loc) = locs at hS ⊢
  unfold f_Go_mayStandAnyhow at h
  refine lv_aload_n hx hb d_Go_mayStandAnyhow_0 rfl (lv_at hl 0 rfl) ?_
  refine va_get (ci := 2) (v := .ref (xGo 3)) (C := R_Go) (T := F_Go) (N := 6) hx hb hts i_Go hown hK hP 0 rfl rfl 2 (by decide) (hts _ m_58) (fun _ h9 => h9) rfl d_Go_mayStandAnyhow_1 ?_
  refine lv_iload_n hx hb d_Go_mayStandAnyhow_4 rfl (lv_at hl 1 rfl) ?_
  obtain ⟨hi_1, h⟩ := gb_i h
  refine va_iald hx hb hK hP 3 0 rfl rfl (inb_in hi_1) d_Go_mayStandAnyhow_5 ?_
  obtain ⟨x_2, ex_2, h⟩ := letb_i h
  refine lv_topn ex_2 ?_
  refine lv_bipush (v := 63) hx hb d_Go_mayStandAnyhow_6 (by decide) ?_
  refine lv_icmp_eq (tgt := 15) hx hb d_Go_mayStandAnyhow_8 (by decide) (fun c_3 => ?_) (fun c_3 => ?_)
  · rw [if_pos c_3] at h
    refine lv_iconst (v := 0) hx hb d_Go_mayStandAnyhow_15 (by decide) ?_
    cases h
    rw [hQ]
    exact mi_ret C0 hr rfl hlk hP hD hS d_Go_mayStandAnyhow_16
  · rw [if_neg c_3] at h
    refine lv_iconst (v := 1) hx hb d_Go_mayStandAnyhow_11 (by decide) ?_
    refine lv_goto (tgt := 16) hx hb d_Go_mayStandAnyhow_12 (by decide) ?_
    cases h
    rw [hQ]
    exact mi_ret C0 hr rfl hlk hP hD hS d_Go_mayStandAnyhow_16
abbrev rm_Go_sizeOf_r : Room := { frames := 0, cells := 0, slots := 0, locals := 0 }
set_option maxRecDepth 100000 in
set_option maxHeartbeats 4000000 in
theorem c_Go_sizeOf_r (l : Launch) (D : va_G) (cI cZ cJ : ClassId) (xGo : Nat → Nat) (sz : Nat) (gGo : St) (p1 : Int32) (p2 : Int32) (p3 : Int32) (r : Int32) (h : f_Go_sizeOf gGo p1 p2 p3 = some r) : MI l y_Go_sizeOf b_Go_sizeOf 4 (some .int) rm_Go_sizeOf_r D (TYS cI cZ cJ) [.ref (xGo 0), .int p1, .int p2, .int p3] (wGo xGo cI cZ gGo) sz r (wGo xGo cI cZ gGo) := by
  refine mi_start (own := R_Go) (by decide +kernel) rfl (Nat.le_of_ble_eq_true rfl) (fun p e s m args below meth c A ls C0 hr hlk hP hD hS hl => ?_)
  obtain ⟨Q, hQ⟩ : ∃ Q, Q = QI below D (TYS cI cZ cJ) A (wGo xGo cI cZ gGo) r args s := ⟨_, rfl⟩
  rw [← hQ]
  obtain ⟨hx, hb, -, hown, hts, hK, hE, -⟩ := id C0
  have hl : lv_has ls 4 [(0, .ref (xGo 0)), (1, .int p1), (2, .int p2), (3, .int p3)] := hl
  obtain ⟨H, hH⟩ : ∃ H, H = s.heap := ⟨_, rfl⟩
  have hP : va_P D vwCl (wGo xGo cI cZ gGo) H := by rw [hH]; exact hP
  have hS : va_S A s.heap H [] := by rw [hH]; exact hS
  rw [show W p l e rm_Go_sizeOf_r s m args below meth c s.heap = W p l e rm_Go_sizeOf_r s m args below meth c H by rw [hH]]
  generalize ([] : List Loc) = locs at hS ⊢
  unfold f_Go_sizeOf at h
  refine lv_aload_n hx hb d_Go_sizeOf_0 rfl (lv_at hl 0 rfl) ?_
  refine va_get (ci := 2) (v := .ref (xGo 1)) (C := R_Go) (T := F_Go) (N := 6) hx hb hts i_Go hown hK hP 0 rfl rfl 0 (by decide) (hts _ m_55) (fun _ h9 => h9) rfl d_Go_sizeOf_1 ?_
  refine lv_iload_n hx hb d_Go_sizeOf_4 rfl (lv_at hl 1 rfl) ?_
  refine lv_iconst (v := 3) hx hb d_Go_sizeOf_5 (by decide) ?_
  refine lv_imul hx hb d_Go_sizeOf_6 ?_
  obtain ⟨tW, hZW, hTW⟩ := hE.2.2.2.2.2.2.2.2
  refine va_getsN hx hb hZW hS hown (va_Nw.use rfl (hE.1 _ (List.mem_of_getElem? (i := 7) rfl))) (fun _ h9 => h9) d_Go_sizeOf_7 ?_
  refine lv_iload_n hx hb d_Go_sizeOf_10 rfl (lv_at hl 2 rfl) ?_
  refine lv_iconst (v := 3) hx hb d_Go_sizeOf_11 (by decide) ?_
  refine lv_imul hx hb d_Go_sizeOf_12 ?_
  refine lv_iload_n hx hb d_Go_sizeOf_13 rfl (lv_at hl 3 rfl) ?_
  refine lv_iadd hx hb d_Go_sizeOf_14 ?_
  obtain ⟨hi_1, h⟩ := gb_i h
  refine va_ti hx hb hTW hS (inb_in hi_1) rfl d_Go_sizeOf_15 ?_
  obtain ⟨x_2, ex_2, h⟩ := letb_i h
  refine lv_topn ex_2 ?_
  refine lv_iadd hx hb d_Go_sizeOf_16 ?_
  obtain ⟨hi_3, h⟩ := gb_i h
  refine va_iald hx hb hK hP 1 0 rfl rfl (inb_in hi_3) d_Go_sizeOf_17 ?_
  obtain ⟨x_4, ex_4, h⟩ := letb_i h
  refine lv_topn ex_4 ?_
  cases h
  rw [hQ]
  exact mi_ret C0 hr rfl hlk hP hD hS d_Go_sizeOf_18
abbrev rm_Go_mayStand_r : Room := { frames := 0, cells := 0, slots := 0, locals := 0 }
set_option maxRecDepth 100000 in
set_option maxHeartbeats 4000000 in
theorem c_Go_mayStand_r (l : Launch) (D : va_G) (cI cZ cJ : ClassId) (xGo : Nat → Nat) (sz : Nat) (gGo : St) (p1 : Int32) (p2 : Int32) (r : Int32) (h : f_Go_mayStand gGo p1 p2 = some r) : MI l y_Go_mayStand b_Go_mayStand 3 (some .boolean) rm_Go_mayStand_r D (TYS cI cZ cJ) [.ref (xGo 0), .int p1, .int p2] (wGo xGo cI cZ gGo) sz r (wGo xGo cI cZ gGo) := by
  refine mi_start (own := R_Go) (by decide +kernel) rfl (Nat.le_of_ble_eq_true rfl) (fun p e s m args below meth c A ls C0 hr hlk hP hD hS hl => ?_)
  obtain ⟨Q, hQ⟩ : ∃ Q, Q = QI below D (TYS cI cZ cJ) A (wGo xGo cI cZ gGo) r args s := ⟨_, rfl⟩
  rw [← hQ]
  obtain ⟨hx, hb, -, hown, hts, hK, hE, -⟩ := id C0
  have hl : lv_has ls 3 [(0, .ref (xGo 0)), (1, .int p1), (2, .int p2)] := hl
  obtain ⟨H, hH⟩ : ∃ H, H = s.heap := ⟨_, rfl⟩
  have hP : va_P D vwCl (wGo xGo cI cZ gGo) H := by rw [hH]; exact hP
  have hS : va_S A s.heap H [] := by rw [hH]; exact hS
  rw [show W p l e rm_Go_mayStand_r s m args below meth c s.heap = W p l e rm_Go_mayStand_r s m args below meth c H by rw [hH]]
  generalize ([] : List Loc) = locs at hS ⊢
  unfold f_Go_mayStand at h
  refine lv_aload_n hx hb d_Go_mayStand_0 rfl (lv_at hl 0 rfl) ?_
  refine va_get (ci := 2) (v := .ref (xGo 3)) (C := R_Go) (T := F_Go) (N := 6) hx hb hts i_Go hown hK hP 0 rfl rfl 2 (by decide) (hts _ m_58) (fun _ h9 => h9) rfl d_Go_mayStand_1 ?_
  refine lv_iload_n hx hb d_Go_mayStand_4 rfl (lv_at hl 1 rfl) ?_
  obtain ⟨hi_1, h⟩ := gb_i h
  refine va_iald hx hb hK hP 3 0 rfl rfl (inb_in hi_1) d_Go_mayStand_5 ?_
  obtain ⟨x_2, ex_2, h⟩ := letb_i h
  refine lv_topn ex_2 ?_
  refine lv_iload_n hx hb d_Go_mayStand_6 rfl (lv_at hl 2 rfl) ?_
  refine lv_ishr hx hb d_Go_mayStand_7 ?_
  refine lv_iconst (v := 1) hx hb d_Go_mayStand_8 (by decide) ?_
  refine lv_iand hx hb d_Go_mayStand_9 ?_
  refine lv_if_ne (tgt := 17) hx hb d_Go_mayStand_10 (by decide) (fun c_3 => ?_) (fun c_3 => ?_)
  · rw [if_neg c_3] at h
    refine lv_iconst (v := 0) hx hb d_Go_mayStand_17 (by decide) ?_
    cases h
    rw [hQ]
    exact mi_ret C0 hr rfl hlk hP hD hS d_Go_mayStand_18
  · rw [if_pos c_3] at h
    refine lv_iconst (v := 1) hx hb d_Go_mayStand_13 (by decide) ?_
    refine lv_goto (tgt := 18) hx hb d_Go_mayStand_14 (by decide) ?_
    cases h
    rw [hQ]
    exact mi_ret C0 hr rfl hlk hP hD hS d_Go_mayStand_18
abbrev rm_Go_shortestWay_r : Room := { frames := 1, cells := 0, slots := 0, locals := 23 }
set_option maxRecDepth 100000 in
set_option maxHeartbeats 4000000 in
theorem c_Go_shortestWay_r (l : Launch) (D : va_G) (cI cZ cJ : ClassId) (xGo : Nat → Nat) (sz : Nat) (gGo : St) (p1 : Int32) (p2 : Int32) (p3 : Int32) (r : Int32) (h : f_Go_shortestWay gGo p1 p2 p3 = some r) : MI l y_Go_shortestWay b_Go_shortestWay 9 (some .int) rm_Go_shortestWay_r D (TYS cI cZ cJ) [.ref (xGo 0), .int p1, .int p2, .int p3] (wGo xGo cI cZ gGo) sz r (wGo xGo cI cZ gGo) := by
  refine mi_start (own := R_Go) (by decide +kernel) rfl (Nat.le_of_ble_eq_true rfl) (fun p e s m args below meth c A ls C0 hr hlk hP hD hS hl => ?_)
  obtain ⟨Q, hQ⟩ : ∃ Q, Q = QI below D (TYS cI cZ cJ) A (wGo xGo cI cZ gGo) r args s := ⟨_, rfl⟩
  rw [← hQ]
  obtain ⟨hx, hb, -, hown, hts, hK, hE, -⟩ := id C0
  have hl : lv_has ls 9 [(0, .ref (xGo 0)), (1, .int p1), (2, .int p2), (3, .int p3)] := hl
  obtain ⟨H, hH⟩ : ∃ H, H = s.heap := ⟨_, rfl⟩
  have hP : va_P D vwCl (wGo xGo cI cZ gGo) H := by rw [hH]; exact hP
  have hS : va_S A s.heap H [] := by rw [hH]; exact hS
  rw [show W p l e rm_Go_shortestWay_r s m args below meth c s.heap = W p l e rm_Go_shortestWay_r s m args below meth c H by rw [hH]]
  generalize ([] : List Loc) = locs at hS ⊢
  unfold f_Go_shortestWay at h
  refine lv_iconst (v := (-1)) hx hb d_Go_shortestWay_0 (by decide) ?_
  refine lv_istore (lv' := [(4, .int (-1)), (0, .ref (xGo 0)), (1, .int p1), (2, .int p2), (3, .int p3)]) hx hb d_Go_shortestWay_1 hl (by decide) rfl (fun ls hl => ?_)
  refine lv_sipush (v := 201) hx hb d_Go_shortestWay_3 (by decide) ?_
  refine lv_istore (lv' := [(5, .int 201), (4, .int (-1)), (0, .ref (xGo 0)), (1, .int p1), (2, .int p2), (3, .int p3)]) hx hb d_Go_shortestWay_6 hl (by decide) rfl (fun ls hl => ?_)
  refine lv_iconst (v := 0) hx hb d_Go_shortestWay_8 (by decide) ?_
  refine lv_istore (lv' := [(6, .int 0), (5, .int 201), (4, .int (-1)), (0, .ref (xGo 0)), (1, .int p1), (2, .int p2), (3, .int p3)]) hx hb d_Go_shortestWay_9 hl (by decide) rfl (fun ls hl => ?_)
  have K95 : ∀ (v4_95 : Int32) (v5_95 : Int32) (v6_95 : Int32) (H : Heap) (locs : List Loc) (ls : Array Slot), va_P D vwCl (wGo xGo cI cZ gGo) H → va_D A (wGo xGo cI cZ gGo) → va_S A s.heap H locs → lv_has ls 9 [(0, .ref (xGo 0)), (1, .int p1), (2, .int p2), (3, .int p3), (4, .int v4_95), (5, .int v5_95), (6, .int v6_95)] → f_Go_shortestWay_X95 v4_95 v5_95 v6_95 = some r → W p l e rm_Go_shortestWay_r s m args below meth c H locs 0 0 Q (F0 m 95 ls []) := by
    intro v4_95 v5_95 v6_95 H locs ls hP hD hS hl h
    unfold f_Go_shortestWay_X95 at h
    refine lv_iload hx hb d_Go_shortestWay_95 (lv_at hl 4 rfl) ?_
    cases h
    rw [hQ]
    exact mi_ret C0 hr rfl hlk hP hD hS d_Go_shortestWay_97
  have K11 : ∀ (n : Nat) (v4_11 : Int32) (v5_11 : Int32) (v6_11 : Int32) (H : Heap) (locs : List Loc) (ls : Array Slot), va_P D vwCl (wGo xGo cI cZ gGo) H → va_D A (wGo xGo cI cZ gGo) → va_S A s.heap H locs → lv_has ls 9 [(0, .ref (xGo 0)), (1, .int p1), (2, .int p2), (3, .int p3), (4, .int v4_11), (5, .int v5_11), (6, .int v6_11)] → it3 (f_Go_shortestWay_L11 gGo p1 p2 p3) n v4_11 v5_11 v6_11 = some r → W p l e rm_Go_shortestWay_r s m args below meth c H locs 0 0 Q (F0 m 11 ls []) := by
    intro n
    induction n with
    | zero => intro v4_11 v5_11 v6_11 H locs ls hP hD hS hl h; exact (it3_0 h).elim
    | succ n ih =>
      intro v4_11 v5_11 v6_11 H locs ls hP hD hS hl h
      rw [it3_s, f_Go_shortestWay_L11] at h
      generalize it3 (f_Go_shortestWay_L11 gGo p1 p2 p3) n = kc_11 at h ih
      refine lv_iload hx hb d_Go_shortestWay_11 (lv_at hl 6 rfl) ?_
      refine lv_bipush (v := 6) hx hb d_Go_shortestWay_13 (by decide) ?_
      refine lv_icmp_ge (tgt := 95) hx hb d_Go_shortestWay_15 (by decide) (fun c_1 => ?_) (fun c_1 => ?_)
      · rw [if_pos c_1] at h
        exact K95 v4_11 v5_11 v6_11 H locs ls hP hD hS (lv_sub hl [0, 1, 2, 3, 4, 5, 6] rfl) h
      · rw [if_neg c_1] at h
        refine lv_aload_n hx hb d_Go_shortestWay_18 rfl (lv_at hl 0 rfl) ?_
        refine lv_iload_n hx hb d_Go_shortestWay_19 rfl (lv_at hl 1 rfl) ?_
        refine lv_iload hx hb d_Go_shortestWay_20 (lv_at hl 6 rfl) ?_
        refine lv_iconst (v := 0) hx hb d_Go_shortestWay_22 (by decide) ?_
        obtain ⟨r_2, hc_3, h⟩ := xv1_i h
        refine cVi (ws' := (wGo xGo cI cZ gGo)) (As := [.int p1, .int v6_11, .int 0]) (rest := []) C0 hP hD hS hl.1 [0, 1, 2, 3, 4, 5] (c_Go_sizeOf_r l D cI cZ cJ xGo H.size gGo p1 v6_11 0 r_2 hc_3) k_Go_sizeOf m_460 rfl rfl rfl rfl rfl (rp_same rfl) ⟨by decide, by decide⟩ ⟨rfl, rfl⟩ rfl (Nat.le_of_ble_eq_true rfl) d_Go_shortestWay_23 ⟨Nat.zero_le _, Nat.zero_le _⟩ (fun H locs hP hD hS => ?_)
        refine lv_istore (lv' := [(7, .int r_2), (0, .ref (xGo 0)), (1, .int p1), (2, .int p2), (3, .int p3), (4, .int v4_11), (5, .int v5_11), (6, .int v6_11)]) hx hb d_Go_shortestWay_26 hl (by decide) rfl (fun ls hl => ?_)
        refine lv_aload_n hx hb d_Go_shortestWay_28 rfl (lv_at hl 1 rfl) ?_
        refine lv_iload_n hx hb d_Go_shortestWay_29 rfl (lv_at hl 2 rfl) ?_
        refine lv_iload hx hb d_Go_shortestWay_30 (lv_at hl 7 rfl) ?_
        refine lv_iconst (v := 1) hx hb d_Go_shortestWay_32 (by decide) ?_
        obtain ⟨r_4, hc_5, h⟩ := xv1_i h
        refine cVi (ws' := (wGo xGo cI cZ gGo)) (As := [.int p1, .int v6_11, .int 1]) (rest := []) C0 hP hD hS hl.1 [0, 1, 2, 3, 4, 5] (c_Go_sizeOf_r l D cI cZ cJ xGo H.size gGo p1 v6_11 1 r_4 hc_5) k_Go_sizeOf m_460 rfl rfl rfl rfl rfl (rp_same rfl) ⟨by decide, by decide⟩ ⟨rfl, rfl⟩ rfl (Nat.le_of_ble_eq_true rfl) d_Go_shortestWay_33 ⟨Nat.zero_le _, Nat.zero_le _⟩ (fun H locs hP hD hS => ?_)
        refine lv_iload_n hx hb d_Go_shortestWay_36 rfl (lv_at hl 3 rfl) ?_
        have K57 : ∀ (s0_57 : Int32) (v4_57 : Int32) (v5_57 : Int32) (v6_57 : Int32) (v7_57 : Int32) (H : Heap) (locs : List Loc) (ls : Array Slot), va_P D vwCl (wGo xGo cI cZ gGo) H → va_D A (wGo xGo cI cZ gGo) → va_S A s.heap H locs → lv_has ls 9 [(0, .ref (xGo 0)), (1, .int p1), (2, .int p2), (3, .int p3), (4, .int v4_57), (5, .int v5_57), (6, .int v6_57), (7, .int v7_57)] → f_Go_shortestWay_J57 gGo p1 kc_11 s0_57 v4_57 v5_57 v6_57 v7_57 = some r → W p l e rm_Go_shortestWay_r s m args below meth c H locs 0 0 Q (F0 m 57 ls [.int s0_57]) := by
          intro s0_57 v4_57 v5_57 v6_57 v7_57 H locs ls hP hD hS hl h
          unfold f_Go_shortestWay_J57 at h
          refine lv_istore (lv' := [(8, .int s0_57), (0, .ref (xGo 0)), (1, .int p1), (2, .int p2), (3, .int p3), (4, .int v4_57), (5, .int v5_57), (6, .int v6_57), (7, .int v7_57)]) hx hb d_Go_shortestWay_57 hl (by decide) rfl (fun ls hl => ?_)
          refine lv_iload hx hb d_Go_shortestWay_59 (lv_at hl 0 rfl) ?_
          have K89 : ∀ (v4_89 : Int32) (v5_89 : Int32) (v6_89 : Int32) (v7_89 : Int32) (v8_89 : Int32) (H : Heap) (locs : List Loc) (ls : Array Slot), va_P D vwCl (wGo xGo cI cZ gGo) H → va_D A (wGo xGo cI cZ gGo) → va_S A s.heap H locs → lv_has ls 9 [(0, .ref (xGo 0)), (1, .int p1), (2, .int p2), (3, .int p3), (4, .int v4_89), (5, .int v5_89), (6, .int v6_89), (7, .int v7_89), (8, .int v8_89)] → f_Go_shortestWay_J89 kc_11 v4_89 v5_89 v6_89 v7_89 v8_89 = some r → W p l e rm_Go_shortestWay_r s m args below meth c H locs 0 0 Q (F0 m 89 ls []) := by
            intro v4_89 v5_89 v6_89 v7_89 v8_89 H locs ls hP hD hS hl h
            unfold f_Go_shortestWay_J89 at h
            obtain ⟨x_6, ex_6, h⟩ := letb_i h
            refine lv_iinc (v := x_6) (lv' := [(6, .int x_6), (0, .ref (xGo 0)), (1, .int p1), (2, .int p2), (3, .int p3), (4, .int v4_89), (5, .int v5_89), (7, .int v7_89), (8, .int v8_89)]) hx hb d_Go_shortestWay_89 hl (k := 6) rfl (by rw [ex_6]; rfl) (by decide) rfl (fun ls hl => ?_)
            refine lv_goto (tgt := 11) hx hb d_Go_shortestWay_92 (by decide) ?_
            exact ih v4_89 v5_89 x_6 H locs ls hP hD hS (lv_sub hl [1, 2, 3, 4, 5, 6, 0] rfl) h
          refine lv_if_eq (tgt := 89) hx hb d_Go_shortestWay_61 (by decide) (fun c_7 => ?_) (fun c_7 => ?_)
          · rw [if_pos c_7] at h
            exact K89 v4_57 v5_57 v6_57 v7_57 s0_57 H locs ls hP hD hS (lv_sub hl [1, 2, 3, 4, 5, 6, 7, 8, 0] rfl) h
          · rw [if_neg c_7] at h
            refine lv_iload hx hb d_Go_shortestWay_64 (lv_at hl 8 rfl) ?_
            refine lv_iload hx hb d_Go_shortestWay_66 (lv_at hl 6 rfl) ?_
            refine lv_icmp_ge (tgt := 89) hx hb d_Go_shortestWay_68 (by decide) (fun c_8 => ?_) (fun c_8 => ?_)
            · rw [if_pos c_8] at h
              exact K89 v4_57 v5_57 v6_57 v7_57 s0_57 H locs ls hP hD hS (lv_sub hl [1, 2, 3, 4, 5, 6, 7, 8, 0] rfl) h
            · rw [if_neg c_8] at h
              refine lv_aload_n hx hb d_Go_shortestWay_71 rfl (lv_at hl 1 rfl) ?_
              refine lv_iload_n hx hb d_Go_shortestWay_72 rfl (lv_at hl 2 rfl) ?_
              refine lv_iload hx hb d_Go_shortestWay_73 (lv_at hl 7 rfl) ?_
              obtain ⟨r_9, hc_10, h⟩ := xv1_i h
              refine cVi (ws' := (wGo xGo cI cZ gGo)) (As := [.int p1, .int v6_57]) (rest := []) C0 hP hD hS hl.1 [0, 1, 2, 3, 4, 5] (c_Go_mayStand_r l D cI cZ cJ xGo H.size gGo p1 v6_57 r_9 hc_10) k_Go_mayStand m_466 rfl rfl rfl rfl rfl (rp_same rfl) ⟨by decide, by decide⟩ ⟨rfl, rfl⟩ rfl (Nat.le_of_ble_eq_true rfl) d_Go_shortestWay_75 ⟨Nat.zero_le _, Nat.zero_le _⟩ (fun H locs hP hD hS => ?_)
              refine lv_if_eq (tgt := 89) hx hb d_Go_shortestWay_78 (by decide) (fun c_11 => ?_) (fun c_11 => ?_)
              · rw [if_pos c_11] at h
                exact K89 v4_57 v5_57 v6_57 v7_57 s0_57 H locs ls hP hD hS (lv_sub hl [1, 2, 3, 4, 5, 6, 7, 8, 0] rfl) h
              · rw [if_neg c_11] at h
                refine lv_iload hx hb d_Go_shortestWay_81 (lv_at hl 7 rfl) ?_
                refine lv_istore (lv' := [(4, .int v6_57), (8, .int s0_57), (0, .ref (xGo 0)), (1, .int p1), (2, .int p2), (3, .int p3), (5, .int v5_57), (6, .int v6_57), (7, .int v7_57)]) hx hb d_Go_shortestWay_83 hl (by decide) rfl (fun ls hl => ?_)
                refine lv_iload hx hb d_Go_shortestWay_85 (lv_at hl 8 rfl) ?_
                refine lv_istore (lv' := [(5, .int v7_57), (4, .int v6_57), (8, .int s0_57), (0, .ref (xGo 0)), (1, .int p1), (2, .int p2), (3, .int p3), (6, .int v6_57), (7, .int v7_57)]) hx hb d_Go_shortestWay_87 hl (by decide) rfl (fun ls hl => ?_)
                exact K89 v6_57 v7_57 v6_57 v7_57 s0_57 H locs ls hP hD hS (lv_sub hl [3, 4, 5, 6, 1, 0, 7, 8, 2] rfl) h
        have K56 : ∀ (v4_56 : Int32) (v5_56 : Int32) (v6_56 : Int32) (v7_56 : Int32) (H : Heap) (locs : List Loc) (ls : Array Slot), va_P D vwCl (wGo xGo cI cZ gGo) H → va_D A (wGo xGo cI cZ gGo) → va_S A s.heap H locs → lv_has ls 9 [(0, .ref (xGo 0)), (1, .int p1), (2, .int p2), (3, .int p3), (4, .int v4_56), (5, .int v5_56), (6, .int v6_56), (7, .int v7_56)] → f_Go_shortestWay_J56 gGo p1 kc_11 v4_56 v5_56 v6_56 v7_56 = some r → W p l e rm_Go_shortestWay_r s m args below meth c H locs 0 0 Q (F0 m 56 ls []) := by
          intro v4_56 v5_56 v6_56 v7_56 H locs ls hP hD hS hl h
          unfold f_Go_shortestWay_J56 at h
          refine lv_iconst (v := 0) hx hb d_Go_shortestWay_56 (by decide) ?_
          exact K57 0 v4_56 v5_56 v6_56 v7_56 H locs ls hP hD hS (lv_sub hl [0, 1, 2, 3, 4, 5, 6, 7] rfl) h
        refine lv_icmp_gt (tgt := 56) hx hb d_Go_shortestWay_37 (by decide) (fun c_12 => ?_) (fun c_12 => ?_)
        · rw [if_pos c_12] at h
          exact K56 v4_11 v5_11 v6_11 r_2 H locs ls hP hD hS (lv_sub hl [1, 2, 3, 4, 5, 6, 7, 0] rfl) h
        · rw [if_neg c_12] at h
          refine lv_aload_n hx hb d_Go_shortestWay_40 rfl (lv_at hl 1 rfl) ?_
          refine lv_iload_n hx hb d_Go_shortestWay_41 rfl (lv_at hl 2 rfl) ?_
          refine lv_iload hx hb d_Go_shortestWay_42 (lv_at hl 7 rfl) ?_
          refine lv_iconst (v := 2) hx hb d_Go_shortestWay_44 (by decide) ?_
          obtain ⟨r_13, hc_14, h⟩ := xv1_i h
          refine cVi (ws' := (wGo xGo cI cZ gGo)) (As := [.int p1, .int v6_11, .int 2]) (rest := []) C0 hP hD hS hl.1 [0, 1, 2, 3, 4, 5] (c_Go_sizeOf_r l D cI cZ cJ xGo H.size gGo p1 v6_11 2 r_13 hc_14) k_Go_sizeOf m_460 rfl rfl rfl rfl rfl (rp_same rfl) ⟨by decide, by decide⟩ ⟨rfl, rfl⟩ rfl (Nat.le_of_ble_eq_true rfl) d_Go_shortestWay_45 ⟨Nat.zero_le _, Nat.zero_le _⟩ (fun H locs hP hD hS => ?_)
          refine lv_iload_n hx hb d_Go_shortestWay_48 rfl (lv_at hl 4 rfl) ?_
          refine lv_icmp_gt (tgt := 56) hx hb d_Go_shortestWay_49 (by decide) (fun c_15 => ?_) (fun c_15 => ?_)
          · rw [if_pos c_15] at h
            exact K56 v4_11 v5_11 v6_11 r_2 H locs ls hP hD hS (lv_sub hl [1, 2, 3, 4, 5, 6, 7, 0] rfl) h
          · rw [if_neg c_15] at h
            refine lv_iconst (v := 1) hx hb d_Go_shortestWay_52 (by decide) ?_
            refine lv_goto (tgt := 57) hx hb d_Go_shortestWay_53 (by decide) ?_
            exact K57 1 v4_11 v5_11 v6_11 r_2 H locs ls hP hD hS (lv_sub hl [1, 2, 3, 4, 5, 6, 7, 0] rfl) h
  exact K11 FU (-1) 201 0 H locs ls hP hD hS (lv_sub hl [3, 4, 5, 6, 2, 1, 0] rfl) h
abbrev rm_Go_partSet_r : Room := { frames := 0, cells := 0, slots := 0, locals := 0 }
set_option maxRecDepth 100000 in
set_option maxHeartbeats 4000000 in
theorem c_Go_partSet_r (l : Launch) (D : va_G) (cI cZ cJ : ClassId) (xGo : Nat → Nat) (sz : Nat) (gGo : St) (p1 : Int32) (p2 : Int32) (gGo1 : St) (h : f_Go_partSet gGo p1 p2 = some gGo1) : MV l y_Go_partSet b_Go_partSet 10 (Option.none : Option Jvm.ClassFile.FieldType) rm_Go_partSet_r D (TYS cI cZ cJ) [.ref (xGo 0), .int p1, .int p2] (wGo xGo cI cZ gGo) sz (wGo xGo cI cZ gGo1) := by
  refine mv_start (own := R_Go) (by decide +kernel) rfl (Nat.le_of_ble_eq_true rfl) (fun p e s m args below meth c A ls C0 hr hlk hP hD hS hl => ?_)
  obtain ⟨Q, hQ⟩ : ∃ Q, Q = QV below D (TYS cI cZ cJ) A (wGo xGo cI cZ gGo1) args s := ⟨_, rfl⟩
  rw [← hQ]
  obtain ⟨hx, hb, -, hown, hts, hK, hE, -⟩ := id C0
  have hl : lv_has ls 10 [(0, .ref (xGo 0)), (1, .int p1), (2, .int p2)] := hl
  obtain ⟨H, hH⟩ : ∃ H, H = s.heap := ⟨_, rfl⟩
  have hP : va_P D vwCl (wGo xGo cI cZ gGo) H := by rw [hH]; exact hP
  have hS : va_S A s.heap H [] := by rw [hH]; exact hS
  rw [show W p l e rm_Go_partSet_r s m args below meth c s.heap = W p l e rm_Go_partSet_r s m args below meth c H by rw [hH]]
  generalize ([] : List Loc) = locs at hS ⊢
  unfold f_Go_partSet at h
  refine lv_bipush (v := 7) hx hb d_Go_partSet_0 (by decide) ?_
  refine lv_istore_n (lv' := [(3, .int 7), (0, .ref (xGo 0)), (1, .int p1), (2, .int p2)]) hx hb d_Go_partSet_2 rfl hl (by decide) rfl (fun ls hl => ?_)
  refine lv_iconst (v := 0) hx hb d_Go_partSet_3 (by decide) ?_
  refine lv_istore (lv' := [(4, .int 0), (3, .int 7), (0, .ref (xGo 0)), (1, .int p1), (2, .int p2)]) hx hb d_Go_partSet_4 hl (by decide) rfl (fun ls hl => ?_)
  refine lv_iconst (v := 0) hx hb d_Go_partSet_6 (by decide) ?_
  refine lv_istore (lv' := [(5, .int 0), (4, .int 0), (3, .int 7), (0, .ref (xGo 0)), (1, .int p1), (2, .int p2)]) hx hb d_Go_partSet_7 hl (by decide) rfl (fun ls hl => ?_)
  have K154 : ∀ (v3_154 : Int32) (v4_154 : Int32) (v5_154 : Int32) (H : Heap) (locs : List Loc) (ls : Array Slot), va_P D vwCl (wGo xGo cI cZ gGo) H → va_D A (wGo xGo cI cZ gGo) → va_S A s.heap H locs → lv_has ls 10 [(0, .ref (xGo 0)), (1, .int p1), (2, .int p2), (3, .int v3_154), (4, .int v4_154), (5, .int v5_154)] → f_Go_partSet_X154 gGo p1 v3_154 v4_154 v5_154 = some gGo1 → W p l e rm_Go_partSet_r s m args below meth c H locs 0 0 Q (F0 m 154 ls []) := by
    intro v3_154 v4_154 v5_154 H locs ls hP hD hS hl h
    unfold f_Go_partSet_X154 at h
    refine lv_aload_n hx hb d_Go_partSet_154 rfl (lv_at hl 0 rfl) ?_
    refine va_get (ci := 2) (v := .ref (xGo 4)) (C := R_Go) (T := F_Go) (N := 6) hx hb hts i_Go hown hK hP 0 rfl rfl 3 (by decide) (hts _ m_59) (fun _ h9 => h9) rfl d_Go_partSet_155 ?_
    refine lv_iload_n hx hb d_Go_partSet_158 rfl (lv_at hl 1 rfl) ?_
    refine lv_iload_n hx hb d_Go_partSet_159 rfl (lv_at hl 3 rfl) ?_
    obtain ⟨hi_1, h⟩ := gb_i h
    refine va_iast hx hb hK hP hD hS 4 0 rfl rfl (inb_in hi_1) d_Go_partSet_160 (fun H locs hP hD hS => ?_)
    obtain ⟨gGo_2, egGo_2, h⟩ := letb_i h
    have hP : va_P D vwCl (wGo xGo cI cZ gGo_2) H := by rw [egGo_2, u_Go_4]; exact hP
    have hD : va_D A (wGo xGo cI cZ gGo_2) := by rw [egGo_2, u_Go_4]; exact hD
    refine lv_aload_n hx hb d_Go_partSet_161 rfl (lv_at hl 0 rfl) ?_
    refine va_get (ci := 2) (v := .ref (xGo 5)) (C := R_Go) (T := F_Go) (N := 6) hx hb hts i_Go hown hK hP 0 rfl rfl 4 (by decide) (hts _ m_60) (fun _ h9 => h9) rfl d_Go_partSet_162 ?_
    refine lv_iload_n hx hb d_Go_partSet_165 rfl (lv_at hl 1 rfl) ?_
    refine lv_iload hx hb d_Go_partSet_166 (lv_at hl 4 rfl) ?_
    obtain ⟨hi_3, h⟩ := gb_i h
    refine va_iast hx hb hK hP hD hS 5 0 rfl rfl (inb_in hi_3) d_Go_partSet_168 (fun H locs hP hD hS => ?_)
    obtain ⟨gGo_4, egGo_4, h⟩ := letb_i h
    have hP : va_P D vwCl (wGo xGo cI cZ gGo_4) H := by rw [egGo_4, u_Go_5]; exact hP
    have hD : va_D A (wGo xGo cI cZ gGo_4) := by rw [egGo_4, u_Go_5]; exact hD
    cases h
    rw [hQ]
    exact mv_ret C0 hr hlk hP hD hS d_Go_partSet_169
  have K9 : ∀ (n : Nat) (v3_9 : Int32) (v4_9 : Int32) (v5_9 : Int32) (H : Heap) (locs : List Loc) (ls : Array Slot), va_P D vwCl (wGo xGo cI cZ gGo) H → va_D A (wGo xGo cI cZ gGo) → va_S A s.heap H locs → lv_has ls 10 [(0, .ref (xGo 0)), (1, .int p1), (2, .int p2), (3, .int v3_9), (4, .int v4_9), (5, .int v5_9)] → it3 (f_Go_partSet_L9 gGo p1 p2) n v3_9 v4_9 v5_9 = some gGo1 → W p l e rm_Go_partSet_r s m args below meth c H locs 0 0 Q (F0 m 9 ls []) := by
    intro n
    induction n with
    | zero => intro v3_9 v4_9 v5_9 H locs ls hP hD hS hl h; exact (it3_0 h).elim
    | succ n ih =>
      intro v3_9 v4_9 v5_9 H locs ls hP hD hS hl h
      rw [it3_s, f_Go_partSet_L9] at h
      generalize it3 (f_Go_partSet_L9 gGo p1 p2) n = kc_9 at h ih
      refine lv_iload hx hb d_Go_partSet_9 (lv_at hl 5 rfl) ?_
      refine lv_aload_n hx hb d_Go_partSet_11 rfl (lv_at hl 0 rfl) ?_
      refine va_get (ci := 2) (v := .int (gGo 0 5)) (C := R_Go) (T := F_Go) (N := 6) hx hb hts i_Go hown hK hP 0 rfl rfl 5 (by decide) (hts _ m_61) (fun _ h9 => h9) rfl d_Go_partSet_12 ?_
      refine lv_icmp_ge (tgt := 154) hx hb d_Go_partSet_15 (by decide) (fun c_5 => ?_) (fun c_5 => ?_)
      · rw [if_pos c_5] at h
        exact K154 v3_9 v4_9 v5_9 H locs ls hP hD hS (lv_sub hl [0, 1, 2, 3, 4, 5] rfl) h
      · rw [if_neg c_5] at h
        refine lv_iload_n hx hb d_Go_partSet_18 rfl (lv_at hl 1 rfl) ?_
        refine lv_iload hx hb d_Go_partSet_19 (lv_at hl 5 rfl) ?_
        refine lv_ishr hx hb d_Go_partSet_21 ?_
        refine lv_iconst (v := 1) hx hb d_Go_partSet_22 (by decide) ?_
        refine lv_iand hx hb d_Go_partSet_23 ?_
        have K148 : ∀ (v3_148 : Int32) (v4_148 : Int32) (v5_148 : Int32) (H : Heap) (locs : List Loc) (ls : Array Slot), va_P D vwCl (wGo xGo cI cZ gGo) H → va_D A (wGo xGo cI cZ gGo) → va_S A s.heap H locs → lv_has ls 10 [(0, .ref (xGo 0)), (1, .int p1), (2, .int p2), (3, .int v3_148), (4, .int v4_148), (5, .int v5_148)] → f_Go_partSet_J148 kc_9 v3_148 v4_148 v5_148 = some gGo1 → W p l e rm_Go_partSet_r s m args below meth c H locs 0 0 Q (F0 m 148 ls []) := by
          intro v3_148 v4_148 v5_148 H locs ls hP hD hS hl h
          unfold f_Go_partSet_J148 at h
          obtain ⟨x_6, ex_6, h⟩ := letb_i h
          refine lv_iinc (v := x_6) (lv' := [(5, .int x_6), (0, .ref (xGo 0)), (1, .int p1), (2, .int p2), (3, .int v3_148), (4, .int v4_148)]) hx hb d_Go_partSet_148 hl (k := 5) rfl (by rw [ex_6]; rfl) (by decide) rfl (fun ls hl => ?_)
          refine lv_goto (tgt := 9) hx hb d_Go_partSet_151 (by decide) ?_
          exact ih v3_148 v4_148 x_6 H locs ls hP hD hS (lv_sub hl [1, 2, 3, 4, 5, 0] rfl) h
        refine lv_if_ne (tgt := 30) hx hb d_Go_partSet_24 (by decide) (fun c_7 => ?_) (fun c_7 => ?_)
        · rw [if_neg c_7] at h
          refine lv_iload_n hx hb d_Go_partSet_30 rfl (lv_at hl 1 rfl) ?_
          refine lv_iconst (v := 1) hx hb d_Go_partSet_31 (by decide) ?_
          refine lv_iload hx hb d_Go_partSet_32 (lv_at hl 5 rfl) ?_
          refine lv_ishl hx hb d_Go_partSet_34 ?_
          refine lv_ixor hx hb d_Go_partSet_35 ?_
          obtain ⟨x_8, ex_8, h⟩ := letb_i h
          refine lv_topn ex_8 ?_
          refine lv_istore (lv' := [(6, .int x_8), (0, .ref (xGo 0)), (1, .int p1), (2, .int p2), (3, .int v3_9), (4, .int v4_9), (5, .int v5_9)]) hx hb d_Go_partSet_36 hl (by decide) rfl (fun ls hl => ?_)
          refine lv_aload_n hx hb d_Go_partSet_38 rfl (lv_at hl 1 rfl) ?_
          refine va_get (ci := 2) (v := .ref (xGo 2)) (C := R_Go) (T := F_Go) (N := 6) hx hb hts i_Go hown hK hP 0 rfl rfl 1 (by decide) (hts _ m_57) (fun _ h9 => h9) rfl d_Go_partSet_39 ?_
          refine lv_iload hx hb d_Go_partSet_42 (lv_at hl 6 rfl) ?_
          obtain ⟨hi_9, h⟩ := gb_i h
          refine va_iald hx hb hK hP 2 0 rfl rfl (inb_in hi_9) d_Go_partSet_44 ?_
          obtain ⟨x_10, ex_10, h⟩ := letb_i h
          refine lv_topn ex_10 ?_
          refine lv_iload_n hx hb d_Go_partSet_45 rfl (lv_at hl 3 rfl) ?_
          refine lv_aload_n hx hb d_Go_partSet_46 rfl (lv_at hl 1 rfl) ?_
          refine va_get (ci := 2) (v := .ref (xGo 5)) (C := R_Go) (T := F_Go) (N := 6) hx hb hts i_Go hown hK hP 0 rfl rfl 4 (by decide) (hts _ m_60) (fun _ h9 => h9) rfl d_Go_partSet_47 ?_
          refine lv_iload hx hb d_Go_partSet_50 (lv_at hl 0 rfl) ?_
          obtain ⟨hi_11, h⟩ := gb_i h
          refine va_iald hx hb hK hP 5 0 rfl rfl (inb_in hi_11) d_Go_partSet_52 ?_
          obtain ⟨x_12, ex_12, h⟩ := letb_i h
          refine lv_topn ex_12 ?_
          refine lv_isub hx hb d_Go_partSet_53 ?_
          have K62 : ∀ (s0_62 : Int32) (v3_62 : Int32) (v4_62 : Int32) (v5_62 : Int32) (v6_62 : Int32) (H : Heap) (locs : List Loc) (ls : Array Slot), va_P D vwCl (wGo xGo cI cZ gGo) H → va_D A (wGo xGo cI cZ gGo) → va_S A s.heap H locs → lv_has ls 10 [(0, .ref (xGo 0)), (1, .int p1), (2, .int p2), (3, .int v3_62), (4, .int v4_62), (5, .int v5_62), (6, .int v6_62)] → f_Go_partSet_J62 gGo kc_9 s0_62 v3_62 v4_62 v5_62 v6_62 = some gGo1 → W p l e rm_Go_partSet_r s m args below meth c H locs 0 0 Q (F0 m 62 ls [.int s0_62]) := by
            intro s0_62 v3_62 v4_62 v5_62 v6_62 H locs ls hP hD hS hl h
            unfold f_Go_partSet_J62 at h
            refine lv_istore (lv' := [(7, .int s0_62), (0, .ref (xGo 0)), (1, .int p1), (2, .int p2), (3, .int v3_62), (4, .int v4_62), (5, .int v5_62), (6, .int v6_62)]) hx hb d_Go_partSet_62 hl (by decide) rfl (fun ls hl => ?_)
            refine lv_iload hx hb d_Go_partSet_64 (lv_at hl 0 rfl) ?_
            have K88 : ∀ (s0_88 : Int32) (v3_88 : Int32) (v4_88 : Int32) (v5_88 : Int32) (v6_88 : Int32) (v7_88 : Int32) (H : Heap) (locs : List Loc) (ls : Array Slot), va_P D vwCl (wGo xGo cI cZ gGo) H → va_D A (wGo xGo cI cZ gGo) → va_S A s.heap H locs → lv_has ls 10 [(0, .ref (xGo 0)), (1, .int p1), (2, .int p2), (3, .int v3_88), (4, .int v4_88), (5, .int v5_88), (6, .int v6_88), (7, .int v7_88)] → f_Go_partSet_J88 gGo kc_9 s0_88 v3_88 v4_88 v5_88 v6_88 v7_88 = some gGo1 → W p l e rm_Go_partSet_r s m args below meth c H locs 0 0 Q (F0 m 88 ls [.int s0_88]) := by
              intro s0_88 v3_88 v4_88 v5_88 v6_88 v7_88 H locs ls hP hD hS hl h
              unfold f_Go_partSet_J88 at h
              refine lv_istore (lv' := [(8, .int s0_88), (0, .ref (xGo 0)), (1, .int p1), (2, .int p2), (3, .int v3_88), (4, .int v4_88), (5, .int v5_88), (6, .int v6_88), (7, .int v7_88)]) hx hb d_Go_partSet_88 hl (by decide) rfl (fun ls hl => ?_)
              refine lv_iload hx hb d_Go_partSet_90 (lv_at hl 8 rfl) ?_
              have K120 : ∀ (s0_120 : Int32) (v3_120 : Int32) (v4_120 : Int32) (v5_120 : Int32) (v6_120 : Int32) (v7_120 : Int32) (v8_120 : Int32) (H : Heap) (locs : List Loc) (ls : Array Slot), va_P D vwCl (wGo xGo cI cZ gGo) H → va_D A (wGo xGo cI cZ gGo) → va_S A s.heap H locs → lv_has ls 10 [(0, .ref (xGo 0)), (1, .int p1), (2, .int p2), (3, .int v3_120), (4, .int v4_120), (5, .int v5_120), (6, .int v6_120), (7, .int v7_120), (8, .int v8_120)] → f_Go_partSet_J120 kc_9 s0_120 v3_120 v4_120 v5_120 v6_120 v7_120 v8_120 = some gGo1 → W p l e rm_Go_partSet_r s m args below meth c H locs 0 0 Q (F0 m 120 ls [.int s0_120]) := by
                intro s0_120 v3_120 v4_120 v5_120 v6_120 v7_120 v8_120 H locs ls hP hD hS hl h
                unfold f_Go_partSet_J120 at h
                refine lv_istore (lv' := [(9, .int s0_120), (0, .ref (xGo 0)), (1, .int p1), (2, .int p2), (3, .int v3_120), (4, .int v4_120), (5, .int v5_120), (6, .int v6_120), (7, .int v7_120), (8, .int v8_120)]) hx hb d_Go_partSet_120 hl (by decide) rfl (fun ls hl => ?_)
                refine lv_iload hx hb d_Go_partSet_122 (lv_at hl 9 rfl) ?_
                refine lv_iload_n hx hb d_Go_partSet_124 rfl (lv_at hl 4 rfl) ?_
                have K141 : ∀ (v3_141 : Int32) (v4_141 : Int32) (v5_141 : Int32) (v6_141 : Int32) (v7_141 : Int32) (v8_141 : Int32) (v9_141 : Int32) (H : Heap) (locs : List Loc) (ls : Array Slot), va_P D vwCl (wGo xGo cI cZ gGo) H → va_D A (wGo xGo cI cZ gGo) → va_S A s.heap H locs → lv_has ls 10 [(0, .ref (xGo 0)), (1, .int p1), (2, .int p2), (3, .int v3_141), (4, .int v4_141), (5, .int v5_141), (6, .int v6_141), (7, .int v7_141), (8, .int v8_141), (9, .int v9_141)] → f_Go_partSet_J141 kc_9 v3_141 v4_141 v5_141 v6_141 v7_141 v8_141 v9_141 = some gGo1 → W p l e rm_Go_partSet_r s m args below meth c H locs 0 0 Q (F0 m 141 ls []) := by
                  intro v3_141 v4_141 v5_141 v6_141 v7_141 v8_141 v9_141 H locs ls hP hD hS hl h
                  unfold f_Go_partSet_J141 at h
                  refine lv_iload hx hb d_Go_partSet_141 (lv_at hl 8 rfl) ?_
                  refine lv_istore_n (lv' := [(3, .int v8_141), (0, .ref (xGo 0)), (1, .int p1), (2, .int p2), (4, .int v4_141), (5, .int v5_141), (6, .int v6_141), (7, .int v7_141), (8, .int v8_141), (9, .int v9_141)]) hx hb d_Go_partSet_143 rfl hl (by decide) rfl (fun ls hl => ?_)
                  refine lv_iload hx hb d_Go_partSet_144 (lv_at hl 9 rfl) ?_
                  refine lv_istore (lv' := [(4, .int v9_141), (3, .int v8_141), (0, .ref (xGo 0)), (1, .int p1), (2, .int p2), (5, .int v5_141), (6, .int v6_141), (7, .int v7_141), (8, .int v8_141), (9, .int v9_141)]) hx hb d_Go_partSet_146 hl (by decide) rfl (fun ls hl => ?_)
                  exact K148 v8_141 v9_141 v5_141 H locs ls hP hD hS (lv_sub hl [2, 3, 4, 1, 0, 5] rfl) h
                refine lv_icmp_lt (tgt := 141) hx hb d_Go_partSet_125 (by decide) (fun c_13 => ?_) (fun c_13 => ?_)
                · rw [if_pos c_13] at h
                  exact K141 v3_120 v4_120 v5_120 v6_120 v7_120 v8_120 s0_120 H locs ls hP hD hS (lv_sub hl [1, 2, 3, 4, 5, 6, 7, 8, 9, 0] rfl) h
                · rw [if_neg c_13] at h
                  refine lv_iload hx hb d_Go_partSet_128 (lv_at hl 9 rfl) ?_
                  refine lv_iload_n hx hb d_Go_partSet_130 rfl (lv_at hl 4 rfl) ?_
                  refine lv_icmp_ne (tgt := 148) hx hb d_Go_partSet_131 (by decide) (fun c_14 => ?_) (fun c_14 => ?_)
                  · rw [if_neg c_14] at h
                    exact K148 v3_120 v4_120 v5_120 H locs ls hP hD hS (lv_sub hl [1, 2, 3, 4, 5, 6] rfl) h
                  · rw [if_pos c_14] at h
                    refine lv_iload hx hb d_Go_partSet_134 (lv_at hl 0 rfl) ?_
                    refine lv_iload hx hb d_Go_partSet_136 (lv_at hl 5 rfl) ?_
                    refine lv_icmp_ge (tgt := 148) hx hb d_Go_partSet_138 (by decide) (fun c_15 => ?_) (fun c_15 => ?_)
                    · rw [if_pos c_15] at h
                      exact K148 v3_120 v4_120 v5_120 H locs ls hP hD hS (lv_sub hl [1, 2, 3, 4, 5, 6] rfl) h
                    · rw [if_neg c_15] at h
                      exact K141 v3_120 v4_120 v5_120 v6_120 v7_120 v8_120 s0_120 H locs ls hP hD hS (lv_sub hl [1, 2, 3, 4, 5, 6, 7, 8, 9, 0] rfl) h
              refine lv_if_eq (tgt := 113) hx hb d_Go_partSet_92 (by decide) (fun c_16 => ?_) (fun c_16 => ?_)
              · rw [if_pos c_16] at h
                refine lv_aload_n hx hb d_Go_partSet_113 rfl (lv_at hl 1 rfl) ?_
                refine va_get (ci := 2) (v := .ref (xGo 2)) (C := R_Go) (T := F_Go) (N := 6) hx hb hts i_Go hown hK hP 0 rfl rfl 1 (by decide) (hts _ m_57) (fun _ h9 => h9) rfl d_Go_partSet_114 ?_
                refine lv_iload hx hb d_Go_partSet_117 (lv_at hl 6 rfl) ?_
                obtain ⟨hi_17, h⟩ := gb_i h
                refine va_iald hx hb hK hP 2 0 rfl rfl (inb_in hi_17) d_Go_partSet_119 ?_
                obtain ⟨x_18, ex_18, h⟩ := letb_i h
                refine lv_topn ex_18 ?_
                exact K120 x_18 v3_88 v4_88 v5_88 v6_88 v7_88 s0_88 H locs ls hP hD hS (lv_sub hl [1, 2, 3, 4, 5, 6, 7, 8, 0] rfl) h
              · rw [if_neg c_16] at h
                refine lv_aload_n hx hb d_Go_partSet_95 rfl (lv_at hl 1 rfl) ?_
                refine va_get (ci := 2) (v := .ref (xGo 5)) (C := R_Go) (T := F_Go) (N := 6) hx hb hts i_Go hown hK hP 0 rfl rfl 4 (by decide) (hts _ m_60) (fun _ h9 => h9) rfl d_Go_partSet_96 ?_
                refine lv_iload hx hb d_Go_partSet_99 (lv_at hl 7 rfl) ?_
                obtain ⟨hi_19, h⟩ := gb_i h
                refine va_iald hx hb hK hP 5 0 rfl rfl (inb_in hi_19) d_Go_partSet_101 ?_
                obtain ⟨x_20, ex_20, h⟩ := letb_i h
                refine lv_topn ex_20 ?_
                refine lv_aload_n hx hb d_Go_partSet_102 rfl (lv_at hl 1 rfl) ?_
                refine va_get (ci := 2) (v := .ref (xGo 2)) (C := R_Go) (T := F_Go) (N := 6) hx hb hts i_Go hown hK hP 0 rfl rfl 1 (by decide) (hts _ m_57) (fun _ h9 => h9) rfl d_Go_partSet_103 ?_
                refine lv_iload hx hb d_Go_partSet_106 (lv_at hl 6 rfl) ?_
                obtain ⟨hi_21, h⟩ := gb_i h
                refine va_iald hx hb hK hP 2 0 rfl rfl (inb_in hi_21) d_Go_partSet_108 ?_
                obtain ⟨x_22, ex_22, h⟩ := letb_i h
                refine lv_topn ex_22 ?_
                refine lv_iadd hx hb d_Go_partSet_109 ?_
                refine lv_goto (tgt := 120) hx hb d_Go_partSet_110 (by decide) ?_
                exact K120 (x_20 + x_22) v3_88 v4_88 v5_88 v6_88 v7_88 s0_88 H locs ls hP hD hS (lv_sub hl [1, 2, 3, 4, 5, 6, 7, 8, 0] rfl) h
            refine lv_if_eq (tgt := 79) hx hb d_Go_partSet_66 (by decide) (fun c_23 => ?_) (fun c_23 => ?_)
            · rw [if_pos c_23] at h
              refine lv_aload_n hx hb d_Go_partSet_79 rfl (lv_at hl 1 rfl) ?_
              refine va_get (ci := 2) (v := .ref (xGo 4)) (C := R_Go) (T := F_Go) (N := 6) hx hb hts i_Go hown hK hP 0 rfl rfl 3 (by decide) (hts _ m_59) (fun _ h9 => h9) rfl d_Go_partSet_80 ?_
              refine lv_iload hx hb d_Go_partSet_83 (lv_at hl 7 rfl) ?_
              obtain ⟨hi_24, h⟩ := gb_i h
              refine va_iald hx hb hK hP 4 0 rfl rfl (inb_in hi_24) d_Go_partSet_85 ?_
              obtain ⟨x_25, ex_25, h⟩ := letb_i h
              refine lv_topn ex_25 ?_
              refine lv_iconst (v := 1) hx hb d_Go_partSet_86 (by decide) ?_
              refine lv_iadd hx hb d_Go_partSet_87 ?_
              exact K88 (x_25 + 1) v3_62 v4_62 v5_62 v6_62 s0_62 H locs ls hP hD hS (lv_sub hl [1, 2, 3, 4, 5, 6, 7, 0] rfl) h
            · rw [if_neg c_23] at h
              refine lv_aload_n hx hb d_Go_partSet_69 rfl (lv_at hl 1 rfl) ?_
              refine va_get (ci := 2) (v := .ref (xGo 4)) (C := R_Go) (T := F_Go) (N := 6) hx hb hts i_Go hown hK hP 0 rfl rfl 3 (by decide) (hts _ m_59) (fun _ h9 => h9) rfl d_Go_partSet_70 ?_
              refine lv_iload hx hb d_Go_partSet_73 (lv_at hl 7 rfl) ?_
              obtain ⟨hi_26, h⟩ := gb_i h
              refine va_iald hx hb hK hP 4 0 rfl rfl (inb_in hi_26) d_Go_partSet_75 ?_
              obtain ⟨x_27, ex_27, h⟩ := letb_i h
              refine lv_topn ex_27 ?_
              refine lv_goto (tgt := 88) hx hb d_Go_partSet_76 (by decide) ?_
              exact K88 x_27 v3_62 v4_62 v5_62 v6_62 s0_62 H locs ls hP hD hS (lv_sub hl [1, 2, 3, 4, 5, 6, 7, 0] rfl) h
          refine lv_icmp_gt (tgt := 61) hx hb d_Go_partSet_54 (by decide) (fun c_28 => ?_) (fun c_28 => ?_)
          · rw [if_pos c_28] at h
            refine lv_iconst (v := 0) hx hb d_Go_partSet_61 (by decide) ?_
            exact K62 0 v3_9 v4_9 v5_9 x_8 H locs ls hP hD hS (lv_sub hl [1, 2, 3, 4, 5, 6, 0] rfl) h
          · rw [if_neg c_28] at h
            refine lv_iconst (v := 1) hx hb d_Go_partSet_57 (by decide) ?_
            refine lv_goto (tgt := 62) hx hb d_Go_partSet_58 (by decide) ?_
            exact K62 1 v3_9 v4_9 v5_9 x_8 H locs ls hP hD hS (lv_sub hl [1, 2, 3, 4, 5, 6, 0] rfl) h
        · rw [if_pos c_7] at h
          refine lv_goto (tgt := 148) hx hb d_Go_partSet_27 (by decide) ?_
          exact K148 v3_9 v4_9 v5_9 H locs ls hP hD hS (lv_sub hl [0, 1, 2, 3, 4, 5] rfl) h
  exact K9 FU 7 0 0 H locs ls hP hD hS (lv_sub hl [3, 4, 5, 2, 1, 0] rfl) h
abbrev rm_Go_leastCrates_r : Room := { frames := 1, cells := 0, slots := 0, locals := 29 }
set_option maxRecDepth 100000 in
set_option maxHeartbeats 4000000 in
theorem c_Go_leastCrates_r (l : Launch) (D : va_G) (cI cZ cJ : ClassId) (xGo : Nat → Nat) (sz : Nat) (gGo : St) (p1 : Int32) (r : Int32) (gGo1 : St) (h : f_Go_leastCrates gGo p1 = some (.inl (r, gGo1))) : MI l y_Go_leastCrates b_Go_leastCrates 4 (some .int) rm_Go_leastCrates_r D (TYS cI cZ cJ) [.ref (xGo 0), .int p1] (wGo xGo cI cZ gGo) sz r (wGo xGo cI cZ gGo1) := by
  refine mi_start (own := R_Go) (by decide +kernel) rfl (Nat.le_of_ble_eq_true rfl) (fun p e s m args below meth c A ls C0 hr hlk hP hD hS hl => ?_)
  obtain ⟨Q, hQ⟩ : ∃ Q, Q = QI below D (TYS cI cZ cJ) A (wGo xGo cI cZ gGo1) r args s := ⟨_, rfl⟩
  rw [← hQ]
  obtain ⟨hx, hb, -, hown, hts, hK, hE, -⟩ := id C0
  have hl : lv_has ls 4 [(0, .ref (xGo 0)), (1, .int p1)] := hl
  obtain ⟨H, hH⟩ : ∃ H, H = s.heap := ⟨_, rfl⟩
  have hP : va_P D vwCl (wGo xGo cI cZ gGo) H := by rw [hH]; exact hP
  have hS : va_S A s.heap H [] := by rw [hH]; exact hS
  rw [show W p l e rm_Go_leastCrates_r s m args below meth c s.heap = W p l e rm_Go_leastCrates_r s m args below meth c H by rw [hH]]
  generalize ([] : List Loc) = locs at hS ⊢
  unfold f_Go_leastCrates at h
  refine lv_iload_n hx hb d_Go_leastCrates_0 rfl (lv_at hl 1 rfl) ?_
  refine lv_iconst (v := 1) hx hb d_Go_leastCrates_1 (by decide) ?_
  refine lv_icmp_ge (tgt := 15) hx hb d_Go_leastCrates_2 (by decide) (fun c_1 => ?_) (fun c_1 => ?_)
  · rw [if_pos c_1] at h
    refine lv_iconst (v := 0) hx hb d_Go_leastCrates_15 (by decide) ?_
    refine lv_istore_n (lv' := [(2, .int 0), (0, .ref (xGo 0)), (1, .int p1)]) hx hb d_Go_leastCrates_16 rfl hl (by decide) rfl (fun ls hl => ?_)
    have K43 : ∀ (v2_43 : Int32) (H : Heap) (locs : List Loc) (ls : Array Slot), va_P D vwCl (wGo xGo cI cZ gGo) H → va_D A (wGo xGo cI cZ gGo) → va_S A s.heap H locs → lv_has ls 4 [(0, .ref (xGo 0)), (1, .int p1), (2, .int v2_43)] → f_Go_leastCrates_X43 gGo p1 v2_43 = some (.inl (r, gGo1)) → W p l e rm_Go_leastCrates_r s m args below meth c H locs 0 0 Q (F0 m 43 ls []) := by
      intro v2_43 H locs ls hP hD hS hl h
      unfold f_Go_leastCrates_X43 at h
      refine lv_aload_n hx hb d_Go_leastCrates_43 rfl (lv_at hl 0 rfl) ?_
      refine va_get (ci := 2) (v := .ref (xGo 4)) (C := R_Go) (T := F_Go) (N := 6) hx hb hts i_Go hown hK hP 0 rfl rfl 3 (by decide) (hts _ m_59) (fun _ h9 => h9) rfl d_Go_leastCrates_44 ?_
      refine lv_iconst (v := 0) hx hb d_Go_leastCrates_47 (by decide) ?_
      refine lv_iconst (v := 0) hx hb d_Go_leastCrates_48 (by decide) ?_
      refine va_iast hx hb hK hP hD hS 4 0 rfl rfl (inb_in (by decide)) d_Go_leastCrates_49 (fun H locs hP hD hS => ?_)
      obtain ⟨gGo_2, egGo_2, h⟩ := letb_i h
      have hP : va_P D vwCl (wGo xGo cI cZ gGo_2) H := by rw [egGo_2, u_Go_4]; exact hP
      have hD : va_D A (wGo xGo cI cZ gGo_2) := by rw [egGo_2, u_Go_4]; exact hD
      refine lv_aload_n hx hb d_Go_leastCrates_50 rfl (lv_at hl 0 rfl) ?_
      refine va_get (ci := 2) (v := .ref (xGo 5)) (C := R_Go) (T := F_Go) (N := 6) hx hb hts i_Go hown hK hP 0 rfl rfl 4 (by decide) (hts _ m_60) (fun _ h9 => h9) rfl d_Go_leastCrates_51 ?_
      refine lv_iconst (v := 0) hx hb d_Go_leastCrates_54 (by decide) ?_
      refine lv_iload_n hx hb d_Go_leastCrates_55 rfl (lv_at hl 1 rfl) ?_
      refine va_iast hx hb hK hP hD hS 5 0 rfl rfl (inb_in (by decide)) d_Go_leastCrates_56 (fun H locs hP hD hS => ?_)
      obtain ⟨gGo_3, egGo_3, h⟩ := letb_i h
      have hP : va_P D vwCl (wGo xGo cI cZ gGo_3) H := by rw [egGo_3, u_Go_5]; exact hP
      have hD : va_D A (wGo xGo cI cZ gGo_3) := by rw [egGo_3, u_Go_5]; exact hD
      refine lv_iconst (v := 1) hx hb d_Go_leastCrates_57 (by decide) ?_
      refine lv_aload_n hx hb d_Go_leastCrates_58 rfl (lv_at hl 0 rfl) ?_
      refine va_get (ci := 2) (v := .int (gGo_3 0 5)) (C := R_Go) (T := F_Go) (N := 6) hx hb hts i_Go hown hK hP 0 rfl rfl 5 (by decide) (hts _ m_61) (fun _ h9 => h9) rfl d_Go_leastCrates_59 ?_
      refine lv_ishl hx hb d_Go_leastCrates_62 ?_
      obtain ⟨x_4, ex_4, h⟩ := letb_i h
      refine lv_topn ex_4 ?_
      refine lv_istore_n (lv' := [(2, .int x_4), (0, .ref (xGo 0)), (1, .int p1)]) hx hb d_Go_leastCrates_63 rfl hl (by decide) rfl (fun ls hl => ?_)
      refine lv_iconst (v := 1) hx hb d_Go_leastCrates_64 (by decide) ?_
      refine lv_istore_n (lv' := [(3, .int 1), (2, .int x_4), (0, .ref (xGo 0)), (1, .int p1)]) hx hb d_Go_leastCrates_65 rfl hl (by decide) rfl (fun ls hl => ?_)
      have K83 : ∀ (v2_83 : Int32) (v3_83 : Int32) (gGo_83 : St) (H : Heap) (locs : List Loc) (ls : Array Slot), va_P D vwCl (wGo xGo cI cZ gGo_83) H → va_D A (wGo xGo cI cZ gGo_83) → va_S A s.heap H locs → lv_has ls 4 [(0, .ref (xGo 0)), (1, .int p1), (2, .int v2_83), (3, .int v3_83)] → f_Go_leastCrates_X83 v2_83 v3_83 gGo_83 = some (.inl (r, gGo1)) → W p l e rm_Go_leastCrates_r s m args below meth c H locs 0 0 Q (F0 m 83 ls []) := by
        intro v2_83 v3_83 gGo_83 H locs ls hP hD hS hl h
        unfold f_Go_leastCrates_X83 at h
        refine lv_aload_n hx hb d_Go_leastCrates_83 rfl (lv_at hl 0 rfl) ?_
        refine va_get (ci := 2) (v := .ref (xGo 4)) (C := R_Go) (T := F_Go) (N := 6) hx hb hts i_Go hown hK hP 0 rfl rfl 3 (by decide) (hts _ m_59) (fun _ h9 => h9) rfl d_Go_leastCrates_84 ?_
        refine lv_iload_n hx hb d_Go_leastCrates_87 rfl (lv_at hl 2 rfl) ?_
        refine lv_iconst (v := 1) hx hb d_Go_leastCrates_88 (by decide) ?_
        refine lv_isub hx hb d_Go_leastCrates_89 ?_
        obtain ⟨hi_5, h⟩ := gb_i h
        refine va_iald hx hb hK hP 4 0 rfl rfl (inb_in hi_5) d_Go_leastCrates_90 ?_
        obtain ⟨x_6, ex_6, h⟩ := letb_i h
        refine lv_topn ex_6 ?_
        cases h
        rw [hQ]
        exact mi_ret C0 hr rfl hlk hP hD hS d_Go_leastCrates_91
      have K66 : ∀ (n : Nat) (v2_66 : Int32) (v3_66 : Int32) (gGo_66 : St) (H : Heap) (locs : List Loc) (ls : Array Slot), va_P D vwCl (wGo xGo cI cZ gGo_66) H → va_D A (wGo xGo cI cZ gGo_66) → va_S A s.heap H locs → lv_has ls 4 [(0, .ref (xGo 0)), (1, .int p1), (2, .int v2_66), (3, .int v3_66)] → it3 (f_Go_leastCrates_L66 p1) n v2_66 v3_66 gGo_66 = some (.inl (r, gGo1)) → W p l e rm_Go_leastCrates_r s m args below meth c H locs 0 0 Q (F0 m 66 ls []) := by
        intro n
        induction n with
        | zero => intro v2_66 v3_66 gGo_66 H locs ls hP hD hS hl h; exact (it3_0 h).elim
        | succ n ih =>
          intro v2_66 v3_66 gGo_66 H locs ls hP hD hS hl h
          rw [it3_s, f_Go_leastCrates_L66] at h
          generalize it3 (f_Go_leastCrates_L66 p1) n = kc_66 at h ih
          refine lv_iload_n hx hb d_Go_leastCrates_66 rfl (lv_at hl 3 rfl) ?_
          refine lv_iload_n hx hb d_Go_leastCrates_67 rfl (lv_at hl 2 rfl) ?_
          refine lv_icmp_ge (tgt := 83) hx hb d_Go_leastCrates_68 (by decide) (fun c_7 => ?_) (fun c_7 => ?_)
          · rw [if_pos c_7] at h
            exact K83 v2_66 v3_66 gGo_66 H locs ls hP hD hS (lv_sub hl [0, 1, 2, 3] rfl) h
          · rw [if_neg c_7] at h
            refine lv_aload_n hx hb d_Go_leastCrates_71 rfl (lv_at hl 0 rfl) ?_
            refine lv_iload_n hx hb d_Go_leastCrates_72 rfl (lv_at hl 3 rfl) ?_
            refine lv_iload_n hx hb d_Go_leastCrates_73 rfl (lv_at hl 1 rfl) ?_
            obtain ⟨gGo_8, hc_9, h⟩ := xv1_i h
            refine cVv (ws' := (wGo xGo cI cZ gGo_8)) (As := [.int v3_66, .int p1]) (rest := []) C0 hP hD hS hl.1 [0, 1, 2, 3, 4, 5] (c_Go_partSet_r l D cI cZ cJ xGo H.size gGo_66 v3_66 p1 gGo_8 hc_9) k_Go_partSet m_579 rfl rfl rfl rfl rfl (rp_all rfl rfl) ⟨by decide, by decide⟩ ⟨rfl, rfl⟩ rfl (Nat.le_of_ble_eq_true rfl) d_Go_leastCrates_74 ⟨Nat.zero_le _, Nat.zero_le _⟩ (fun H locs hP hD hS => ?_)
            obtain ⟨x_10, ex_10, h⟩ := letb_i h
            refine lv_iinc (v := x_10) (lv' := [(3, .int x_10), (0, .ref (xGo 0)), (1, .int p1), (2, .int v2_66)]) hx hb d_Go_leastCrates_77 hl (k := 3) rfl (by rw [ex_10]; rfl) (by decide) rfl (fun ls hl => ?_)
            refine lv_goto (tgt := 66) hx hb d_Go_leastCrates_80 (by decide) ?_
            exact ih v2_66 x_10 gGo_8 H locs ls hP hD hS (lv_sub hl [1, 2, 3, 0] rfl) h
      exact K66 FU x_4 1 gGo_3 H locs ls hP hD hS (lv_sub hl [2, 3, 1, 0] rfl) h
    have K17 : ∀ (n : Nat) (v2_17 : Int32) (H : Heap) (locs : List Loc) (ls : Array Slot), va_P D vwCl (wGo xGo cI cZ gGo) H → va_D A (wGo xGo cI cZ gGo) → va_S A s.heap H locs → lv_has ls 4 [(0, .ref (xGo 0)), (1, .int p1), (2, .int v2_17)] → it1 (f_Go_leastCrates_L17 gGo p1) n v2_17 = some (.inl (r, gGo1)) → W p l e rm_Go_leastCrates_r s m args below meth c H locs 0 0 Q (F0 m 17 ls []) := by
      intro n
      induction n with
      | zero => intro v2_17 H locs ls hP hD hS hl h; exact (it1_0 h).elim
      | succ n ih =>
        intro v2_17 H locs ls hP hD hS hl h
        rw [it1_s, f_Go_leastCrates_L17] at h
        generalize it1 (f_Go_leastCrates_L17 gGo p1) n = kc_17 at h ih
        refine lv_iload_n hx hb d_Go_leastCrates_17 rfl (lv_at hl 2 rfl) ?_
        refine lv_aload_n hx hb d_Go_leastCrates_18 rfl (lv_at hl 0 rfl) ?_
        refine va_get (ci := 2) (v := .int (gGo 0 5)) (C := R_Go) (T := F_Go) (N := 6) hx hb hts i_Go hown hK hP 0 rfl rfl 5 (by decide) (hts _ m_61) (fun _ h9 => h9) rfl d_Go_leastCrates_19 ?_
        refine lv_icmp_ge (tgt := 43) hx hb d_Go_leastCrates_22 (by decide) (fun c_11 => ?_) (fun c_11 => ?_)
        · rw [if_pos c_11] at h
          exact K43 v2_17 H locs ls hP hD hS (lv_sub hl [0, 1, 2] rfl) h
        · rw [if_neg c_11] at h
          refine lv_aload_n hx hb d_Go_leastCrates_25 rfl (lv_at hl 0 rfl) ?_
          refine va_get (ci := 2) (v := .ref (xGo 2)) (C := R_Go) (T := F_Go) (N := 6) hx hb hts i_Go hown hK hP 0 rfl rfl 1 (by decide) (hts _ m_57) (fun _ h9 => h9) rfl d_Go_leastCrates_26 ?_
          refine lv_iload_n hx hb d_Go_leastCrates_29 rfl (lv_at hl 2 rfl) ?_
          obtain ⟨hi_12, h⟩ := gb_i h
          refine va_iald hx hb hK hP 2 0 rfl rfl (inb_in hi_12) d_Go_leastCrates_30 ?_
          obtain ⟨x_13, ex_13, h⟩ := letb_i h
          refine lv_topn ex_13 ?_
          refine lv_iload_n hx hb d_Go_leastCrates_31 rfl (lv_at hl 1 rfl) ?_
          refine lv_icmp_le (tgt := 37) hx hb d_Go_leastCrates_32 (by decide) (fun c_14 => ?_) (fun c_14 => ?_)
          · rw [if_pos c_14] at h
            obtain ⟨x_15, ex_15, h⟩ := letb_i h
            refine lv_iinc (v := x_15) (lv' := [(2, .int x_15), (0, .ref (xGo 0)), (1, .int p1)]) hx hb d_Go_leastCrates_37 hl (k := 2) rfl (by rw [ex_15]; rfl) (by decide) rfl (fun ls hl => ?_)
            refine lv_goto (tgt := 17) hx hb d_Go_leastCrates_40 (by decide) ?_
            exact ih x_15 H locs ls hP hD hS (lv_sub hl [1, 2, 0] rfl) h
          · rw [if_neg c_14] at h
            refine lv_iconst (v := (-1)) hx hb d_Go_leastCrates_35 (by decide) ?_
            cases h
            rw [hQ]
            exact mi_ret C0 hr rfl hlk hP hD hS d_Go_leastCrates_36
    exact K17 FU 0 H locs ls hP hD hS (lv_sub hl [1, 2, 0] rfl) h
  · rw [if_neg c_1] at h
    cases h
abbrev rm_Go_leastCrates_t : Room := { frames := 6, cells := 1, slots := 6, locals := 82 }
set_option maxRecDepth 100000 in
set_option maxHeartbeats 4000000 in
theorem c_Go_leastCrates_t (l : Launch) (hltr : l.stackTraces = false) (D : va_G) (cI cZ cJ : ClassId) (xGo : Nat → Nat) (sz : Nat) (gGo : St) (p1 : Int32) (E : String) (h : f_Go_leastCrates gGo p1 = some (.inr E)) : MT l y_Go_leastCrates b_Go_leastCrates 4 (some .int) rm_Go_leastCrates_t D (TYS cI cZ cJ) [.ref (xGo 0), .int p1] (wGo xGo cI cZ gGo) sz E := by
  refine mt_start (own := R_Go) (by decide +kernel) rfl (Nat.le_of_ble_eq_true rfl) (fun p e s m args below meth c A ls C0 hAe hno hlk hP hD hS hl => ?_)
  obtain ⟨Q, hQ⟩ : ∃ Q, Q = QT below D (TYS cI cZ cJ) (wGo xGo cI cZ gGo) E args s := ⟨_, rfl⟩
  rw [← hQ]
  obtain ⟨hx, hb, -, hown, hts, hK, hE, -⟩ := id C0
  have hl : lv_has ls 4 [(0, .ref (xGo 0)), (1, .int p1)] := hl
  obtain ⟨H, hH⟩ : ∃ H, H = s.heap := ⟨_, rfl⟩
  have hP : va_P D vwCl (wGo xGo cI cZ gGo) H := by rw [hH]; exact hP
  have hS : va_S A s.heap H [] := by rw [hH]; exact hS
  rw [show W p l e rm_Go_leastCrates_t s m args below meth c s.heap = W p l e rm_Go_leastCrates_t s m args below meth c H by rw [hH]]
  generalize ([] : List Loc) = locs at hS ⊢
  unfold f_Go_leastCrates at h
  refine lv_iload_n hx hb d_Go_leastCrates_0 rfl (lv_at hl 1 rfl) ?_
  refine lv_iconst (v := 1) hx hb d_Go_leastCrates_1 (by decide) ?_
  refine lv_icmp_ge (tgt := 15) hx hb d_Go_leastCrates_2 (by decide) (fun c_1 => ?_) (fun c_1 => ?_)
  · rw [if_pos c_1] at h
    refine lv_iconst (v := 0) hx hb d_Go_leastCrates_15 (by decide) ?_
    refine lv_istore_n (lv' := [(2, .int 0), (0, .ref (xGo 0)), (1, .int p1)]) hx hb d_Go_leastCrates_16 rfl hl (by decide) rfl (fun ls hl => ?_)
    have K43 : ∀ (v2_43 : Int32) (H : Heap) (locs : List Loc) (ls : Array Slot), va_P D vwCl (wGo xGo cI cZ gGo) H → va_D A (wGo xGo cI cZ gGo) → va_S A s.heap H locs → lv_has ls 4 [(0, .ref (xGo 0)), (1, .int p1), (2, .int v2_43)] → f_Go_leastCrates_X43 gGo p1 v2_43 = some (.inr E) → W p l e rm_Go_leastCrates_t s m args below meth c H locs 0 0 Q (F0 m 43 ls []) := by
      intro v2_43 H locs ls hP hD hS hl h
      unfold f_Go_leastCrates_X43 at h
      refine lv_aload_n hx hb d_Go_leastCrates_43 rfl (lv_at hl 0 rfl) ?_
      refine va_get (ci := 2) (v := .ref (xGo 4)) (C := R_Go) (T := F_Go) (N := 6) hx hb hts i_Go hown hK hP 0 rfl rfl 3 (by decide) (hts _ m_59) (fun _ h9 => h9) rfl d_Go_leastCrates_44 ?_
      refine lv_iconst (v := 0) hx hb d_Go_leastCrates_47 (by decide) ?_
      refine lv_iconst (v := 0) hx hb d_Go_leastCrates_48 (by decide) ?_
      refine va_iast hx hb hK hP hD hS 4 0 rfl rfl (inb_in (by decide)) d_Go_leastCrates_49 (fun H locs hP hD hS => ?_)
      obtain ⟨gGo_2, egGo_2, h⟩ := letb_i h
      have hP : va_P D vwCl (wGo xGo cI cZ gGo_2) H := by rw [egGo_2, u_Go_4]; exact hP
      have hD : va_D A (wGo xGo cI cZ gGo_2) := by rw [egGo_2, u_Go_4]; exact hD
      refine lv_aload_n hx hb d_Go_leastCrates_50 rfl (lv_at hl 0 rfl) ?_
      refine va_get (ci := 2) (v := .ref (xGo 5)) (C := R_Go) (T := F_Go) (N := 6) hx hb hts i_Go hown hK hP 0 rfl rfl 4 (by decide) (hts _ m_60) (fun _ h9 => h9) rfl d_Go_leastCrates_51 ?_
      refine lv_iconst (v := 0) hx hb d_Go_leastCrates_54 (by decide) ?_
      refine lv_iload_n hx hb d_Go_leastCrates_55 rfl (lv_at hl 1 rfl) ?_
      refine va_iast hx hb hK hP hD hS 5 0 rfl rfl (inb_in (by decide)) d_Go_leastCrates_56 (fun H locs hP hD hS => ?_)
      obtain ⟨gGo_3, egGo_3, h⟩ := letb_i h
      have hP : va_P D vwCl (wGo xGo cI cZ gGo_3) H := by rw [egGo_3, u_Go_5]; exact hP
      have hD : va_D A (wGo xGo cI cZ gGo_3) := by rw [egGo_3, u_Go_5]; exact hD
      refine lv_iconst (v := 1) hx hb d_Go_leastCrates_57 (by decide) ?_
      refine lv_aload_n hx hb d_Go_leastCrates_58 rfl (lv_at hl 0 rfl) ?_
      refine va_get (ci := 2) (v := .int (gGo_3 0 5)) (C := R_Go) (T := F_Go) (N := 6) hx hb hts i_Go hown hK hP 0 rfl rfl 5 (by decide) (hts _ m_61) (fun _ h9 => h9) rfl d_Go_leastCrates_59 ?_
      refine lv_ishl hx hb d_Go_leastCrates_62 ?_
      obtain ⟨x_4, ex_4, h⟩ := letb_i h
      refine lv_topn ex_4 ?_
      refine lv_istore_n (lv' := [(2, .int x_4), (0, .ref (xGo 0)), (1, .int p1)]) hx hb d_Go_leastCrates_63 rfl hl (by decide) rfl (fun ls hl => ?_)
      refine lv_iconst (v := 1) hx hb d_Go_leastCrates_64 (by decide) ?_
      refine lv_istore_n (lv' := [(3, .int 1), (2, .int x_4), (0, .ref (xGo 0)), (1, .int p1)]) hx hb d_Go_leastCrates_65 rfl hl (by decide) rfl (fun ls hl => ?_)
      have K83 : ∀ (v2_83 : Int32) (v3_83 : Int32) (gGo_83 : St) (H : Heap) (locs : List Loc) (ls : Array Slot), va_P D vwCl (wGo xGo cI cZ gGo_83) H → va_D A (wGo xGo cI cZ gGo_83) → va_S A s.heap H locs → lv_has ls 4 [(0, .ref (xGo 0)), (1, .int p1), (2, .int v2_83), (3, .int v3_83)] → f_Go_leastCrates_X83 v2_83 v3_83 gGo_83 = some (.inr E) → W p l e rm_Go_leastCrates_t s m args below meth c H locs 0 0 Q (F0 m 83 ls []) := by
        intro v2_83 v3_83 gGo_83 H locs ls hP hD hS hl h
        unfold f_Go_leastCrates_X83 at h
        refine lv_aload_n hx hb d_Go_leastCrates_83 rfl (lv_at hl 0 rfl) ?_
        refine va_get (ci := 2) (v := .ref (xGo 4)) (C := R_Go) (T := F_Go) (N := 6) hx hb hts i_Go hown hK hP 0 rfl rfl 3 (by decide) (hts _ m_59) (fun _ h9 => h9) rfl d_Go_leastCrates_84 ?_
        refine lv_iload_n hx hb d_Go_leastCrates_87 rfl (lv_at hl 2 rfl) ?_
        refine lv_iconst (v := 1) hx hb d_Go_leastCrates_88 (by decide) ?_
        refine lv_isub hx hb d_Go_leastCrates_89 ?_
        obtain ⟨hi_5, h⟩ := gb_i h
        refine va_iald hx hb hK hP 4 0 rfl rfl (inb_in hi_5) d_Go_leastCrates_90 ?_
        obtain ⟨x_6, ex_6, h⟩ := letb_i h
        refine lv_topn ex_6 ?_
        cases h
      have K66 : ∀ (n : Nat) (v2_66 : Int32) (v3_66 : Int32) (gGo_66 : St) (H : Heap) (locs : List Loc) (ls : Array Slot), va_P D vwCl (wGo xGo cI cZ gGo_66) H → va_D A (wGo xGo cI cZ gGo_66) → va_S A s.heap H locs → lv_has ls 4 [(0, .ref (xGo 0)), (1, .int p1), (2, .int v2_66), (3, .int v3_66)] → it3 (f_Go_leastCrates_L66 p1) n v2_66 v3_66 gGo_66 = some (.inr E) → W p l e rm_Go_leastCrates_t s m args below meth c H locs 0 0 Q (F0 m 66 ls []) := by
        intro n
        induction n with
        | zero => intro v2_66 v3_66 gGo_66 H locs ls hP hD hS hl h; exact (it3_0 h).elim
        | succ n ih =>
          intro v2_66 v3_66 gGo_66 H locs ls hP hD hS hl h
          rw [it3_s, f_Go_leastCrates_L66] at h
          generalize it3 (f_Go_leastCrates_L66 p1) n = kc_66 at h ih
          refine lv_iload_n hx hb d_Go_leastCrates_66 rfl (lv_at hl 3 rfl) ?_
          refine lv_iload_n hx hb d_Go_leastCrates_67 rfl (lv_at hl 2 rfl) ?_
          refine lv_icmp_ge (tgt := 83) hx hb d_Go_leastCrates_68 (by decide) (fun c_7 => ?_) (fun c_7 => ?_)
          · rw [if_pos c_7] at h
            exact K83 v2_66 v3_66 gGo_66 H locs ls hP hD hS (lv_sub hl [0, 1, 2, 3] rfl) h
          · rw [if_neg c_7] at h
            refine lv_aload_n hx hb d_Go_leastCrates_71 rfl (lv_at hl 0 rfl) ?_
            refine lv_iload_n hx hb d_Go_leastCrates_72 rfl (lv_at hl 3 rfl) ?_
            refine lv_iload_n hx hb d_Go_leastCrates_73 rfl (lv_at hl 1 rfl) ?_
            obtain ⟨gGo_8, hc_9, h⟩ := xv1_i h
            refine cVv (ws' := (wGo xGo cI cZ gGo_8)) (As := [.int v3_66, .int p1]) (rest := []) C0 hP hD hS hl.1 [0, 1, 2, 3, 4, 5] (c_Go_partSet_r l D cI cZ cJ xGo H.size gGo_66 v3_66 p1 gGo_8 hc_9) k_Go_partSet m_579 rfl rfl rfl rfl rfl (rp_all rfl rfl) ⟨by decide, by decide⟩ ⟨rfl, rfl⟩ rfl (Nat.le_of_ble_eq_true rfl) d_Go_leastCrates_74 ⟨Nat.zero_le _, Nat.zero_le _⟩ (fun H locs hP hD hS => ?_)
            obtain ⟨x_10, ex_10, h⟩ := letb_i h
            refine lv_iinc (v := x_10) (lv' := [(3, .int x_10), (0, .ref (xGo 0)), (1, .int p1), (2, .int v2_66)]) hx hb d_Go_leastCrates_77 hl (k := 3) rfl (by rw [ex_10]; rfl) (by decide) rfl (fun ls hl => ?_)
            refine lv_goto (tgt := 66) hx hb d_Go_leastCrates_80 (by decide) ?_
            exact ih v2_66 x_10 gGo_8 H locs ls hP hD hS (lv_sub hl [1, 2, 3, 0] rfl) h
      exact K66 FU x_4 1 gGo_3 H locs ls hP hD hS (lv_sub hl [2, 3, 1, 0] rfl) h
    have K17 : ∀ (n : Nat) (v2_17 : Int32) (H : Heap) (locs : List Loc) (ls : Array Slot), va_P D vwCl (wGo xGo cI cZ gGo) H → va_D A (wGo xGo cI cZ gGo) → va_S A s.heap H locs → lv_has ls 4 [(0, .ref (xGo 0)), (1, .int p1), (2, .int v2_17)] → it1 (f_Go_leastCrates_L17 gGo p1) n v2_17 = some (.inr E) → W p l e rm_Go_leastCrates_t s m args below meth c H locs 0 0 Q (F0 m 17 ls []) := by
      intro n
      induction n with
      | zero => intro v2_17 H locs ls hP hD hS hl h; exact (it1_0 h).elim
      | succ n ih =>
        intro v2_17 H locs ls hP hD hS hl h
        rw [it1_s, f_Go_leastCrates_L17] at h
        generalize it1 (f_Go_leastCrates_L17 gGo p1) n = kc_17 at h ih
        refine lv_iload_n hx hb d_Go_leastCrates_17 rfl (lv_at hl 2 rfl) ?_
        refine lv_aload_n hx hb d_Go_leastCrates_18 rfl (lv_at hl 0 rfl) ?_
        refine va_get (ci := 2) (v := .int (gGo 0 5)) (C := R_Go) (T := F_Go) (N := 6) hx hb hts i_Go hown hK hP 0 rfl rfl 5 (by decide) (hts _ m_61) (fun _ h9 => h9) rfl d_Go_leastCrates_19 ?_
        refine lv_icmp_ge (tgt := 43) hx hb d_Go_leastCrates_22 (by decide) (fun c_11 => ?_) (fun c_11 => ?_)
        · rw [if_pos c_11] at h
          exact K43 v2_17 H locs ls hP hD hS (lv_sub hl [0, 1, 2] rfl) h
        · rw [if_neg c_11] at h
          refine lv_aload_n hx hb d_Go_leastCrates_25 rfl (lv_at hl 0 rfl) ?_
          refine va_get (ci := 2) (v := .ref (xGo 2)) (C := R_Go) (T := F_Go) (N := 6) hx hb hts i_Go hown hK hP 0 rfl rfl 1 (by decide) (hts _ m_57) (fun _ h9 => h9) rfl d_Go_leastCrates_26 ?_
          refine lv_iload_n hx hb d_Go_leastCrates_29 rfl (lv_at hl 2 rfl) ?_
          obtain ⟨hi_12, h⟩ := gb_i h
          refine va_iald hx hb hK hP 2 0 rfl rfl (inb_in hi_12) d_Go_leastCrates_30 ?_
          obtain ⟨x_13, ex_13, h⟩ := letb_i h
          refine lv_topn ex_13 ?_
          refine lv_iload_n hx hb d_Go_leastCrates_31 rfl (lv_at hl 1 rfl) ?_
          refine lv_icmp_le (tgt := 37) hx hb d_Go_leastCrates_32 (by decide) (fun c_14 => ?_) (fun c_14 => ?_)
          · rw [if_pos c_14] at h
            obtain ⟨x_15, ex_15, h⟩ := letb_i h
            refine lv_iinc (v := x_15) (lv' := [(2, .int x_15), (0, .ref (xGo 0)), (1, .int p1)]) hx hb d_Go_leastCrates_37 hl (k := 2) rfl (by rw [ex_15]; rfl) (by decide) rfl (fun ls hl => ?_)
            refine lv_goto (tgt := 17) hx hb d_Go_leastCrates_40 (by decide) ?_
            exact ih x_15 H locs ls hP hD hS (lv_sub hl [1, 2, 0] rfl) h
          · rw [if_neg c_14] at h
            refine lv_iconst (v := (-1)) hx hb d_Go_leastCrates_35 (by decide) ?_
            cases h
    exact K17 FU 0 H locs ls hP hD hS (lv_sub hl [1, 2, 0] rfl) h
  · rw [if_neg c_1] at h
    cases h
    rw [hQ]
    exact x_new C0 hAe hltr hno hlk hP hD hS hl.1 t_Go_56 d_Go_leastCrates_5 d_Go_leastCrates_8 d_Go_leastCrates_9 d_Go_leastCrates_11 d_Go_leastCrates_14 ⟨by decide, Nat.le_of_ble_eq_true rfl, by decide, by decide⟩
