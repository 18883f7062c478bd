abbrev rm_Sk_add_r : Room := { frames := 1, cells := 0, slots := 0, locals := 22 }
set_option maxRecDepth 100000 in
set_option maxHeartbeats 4000000 in
theorem c_Sk_add_r (l : Launch) (D : va_G) (cI cZ cJ : ClassId) (xSk : Nat → Nat) (sz : Nat) (gSk : St) (p1 : Int32) (p2 : Int32) (p3 : Int32) (r : Int32) (gSk1 : St) (h : f_Sk_add gSk p1 p2 p3 = some (.inl (r, gSk1))) : MI l y_Sk_add b_Sk_add 4 (some .int) rm_Sk_add_r D (TYS cI cZ cJ) [.ref (xSk 0), .int p1, .int p2, .int p3] (wSk xSk cI cZ gSk) sz r (wSk xSk cI cZ gSk1) := by
  refine mi_start (own := R_Sk) (by decide +kernel) rfl (Nat.le_of_ble_eq_true rfl) (fun p e s m args below meth c A ls C0 hr hlk hP hD hS hl => ?_)
  obtain ⟨Q, hQ⟩ : ∃ Q, Q = QI below D (TYS cI cZ cJ) A (wSk xSk cI cZ gSk1) r args s := ⟨_, rfl⟩
  rw [← hQ]
  obtain ⟨hx, hb, -, hown, hts, hK, hE, -⟩ := id C0
  have hl : lv_has ls 4 [(0, .ref (xSk 0)), (1, .int p1), (2, .int p2), (3, .int p3)] := hl
  obtain ⟨H, hH⟩ : ∃ H, H = s.heap := ⟨_, rfl⟩
  have hP : va_P D vwCl (wSk xSk cI cZ gSk) H := by rw [hH]; exact hP
  have hS : va_S A s.heap H [] := by rw [hH]; exact hS
  rw [show W p l e rm_Sk_add_r s m args below meth c s.heap = W p l e rm_Sk_add_r s m args below meth c H by rw [hH]]
  generalize ([] : List Loc) = locs at hS ⊢
  unfold f_Sk_add at h
  refine lv_aload_n hx hb d_Sk_add_0 rfl (lv_at hl 0 rfl) ?_
  refine va_get (ci := 6) (v := .int (gSk 0 4)) (C := R_Sk) (T := F_Sk) (N := 5) hx hb hts i_Sk hown hK hP 0 rfl rfl 4 (by decide) (hts _ m_141) (fun _ h9 => h9) rfl d_Sk_add_1 ?_
  refine lv_bipush (v := 10) hx hb d_Sk_add_4 (by decide) ?_
  obtain ⟨hc_1, h⟩ | ⟨E9, hc_1, h⟩ := xc0_i h
  rotate_left
  · cases h
  refine cNv (ws' := (wSk xSk cI cZ gSk)) (As := [.int (gSk 0 4), .int 10]) (rest := []) C0 hP hD hS hl.1 [] (c_Cc_requireRoom_r l D cI cZ cJ  H.size (gSk 0 4) 10 hc_1) k_Cc_requireRoom (List.mem_of_getElem? (i := 8) rfl) rfl rfl rfl (rp_same rfl) ⟨by decide, by decide⟩ ⟨rfl, rfl⟩ rfl (Nat.le_of_ble_eq_true rfl) d_Sk_add_6 ⟨Nat.zero_le _, Nat.zero_le _⟩ (fun H locs hP hD hS => ?_)
  refine lv_iload_n hx hb d_Sk_add_9 rfl (lv_at hl 1 rfl) ?_
  refine lv_iconst (v := 1) hx hb d_Sk_add_10 (by decide) ?_
  refine lv_sipush (v := 2000) hx hb d_Sk_add_11 (by decide) ?_
  obtain ⟨hc_2, h⟩ | ⟨E9, hc_2, h⟩ := xc0_i h
  rotate_left
  · cases h
  refine cNv (ws' := (wSk xSk cI cZ gSk)) (As := [.int p1, .int 1, .int 2000]) (rest := []) C0 hP hD hS hl.1 [] (c_Cc_requireRange_r l D cI cZ cJ  H.size p1 1 2000 hc_2) k_Cc_requireRange (List.mem_of_getElem? (i := 9) rfl) rfl rfl rfl (rp_same rfl) ⟨by decide, by decide⟩ ⟨rfl, rfl⟩ rfl (Nat.le_of_ble_eq_true rfl) d_Sk_add_14 ⟨Nat.zero_le _, Nat.zero_le _⟩ (fun H locs hP hD hS => ?_)
  refine lv_iload_n hx hb d_Sk_add_17 rfl (lv_at hl 2 rfl) ?_
  refine lv_iconst (v := 1) hx hb d_Sk_add_18 (by decide) ?_
  refine lv_sipush (v := 2000) hx hb d_Sk_add_19 (by decide) ?_
  obtain ⟨hc_3, h⟩ | ⟨E9, hc_3, h⟩ := xc0_i h
  rotate_left
  · cases h
  refine cNv (ws' := (wSk xSk cI cZ gSk)) (As := [.int p2, .int 1, .int 2000]) (rest := []) C0 hP hD hS hl.1 [] (c_Cc_requireRange_r l D cI cZ cJ  H.size p2 1 2000 hc_3) k_Cc_requireRange (List.mem_of_getElem? (i := 9) rfl) rfl rfl rfl (rp_same rfl) ⟨by decide, by decide⟩ ⟨rfl, rfl⟩ rfl (Nat.le_of_ble_eq_true rfl) d_Sk_add_22 ⟨Nat.zero_le _, Nat.zero_le _⟩ (fun H locs hP hD hS => ?_)
  refine lv_iload_n hx hb d_Sk_add_25 rfl (lv_at hl 3 rfl) ?_
  refine lv_iconst (v := 1) hx hb d_Sk_add_26 (by decide) ?_
  refine lv_sipush (v := 2000) hx hb d_Sk_add_27 (by decide) ?_
  obtain ⟨hc_4, h⟩ | ⟨E9, hc_4, h⟩ := xc0_i h
  rotate_left
  · cases h
  refine cNv (ws' := (wSk xSk cI cZ gSk)) (As := [.int p3, .int 1, .int 2000]) (rest := []) C0 hP hD hS hl.1 [] (c_Cc_requireRange_r l D cI cZ cJ  H.size p3 1 2000 hc_4) k_Cc_requireRange (List.mem_of_getElem? (i := 9) rfl) rfl rfl rfl (rp_same rfl) ⟨by decide, by decide⟩ ⟨rfl, rfl⟩ rfl (Nat.le_of_ble_eq_true rfl) d_Sk_add_30 ⟨Nat.zero_le _, Nat.zero_le _⟩ (fun H locs hP hD hS => ?_)
  refine lv_aload_n hx hb d_Sk_add_33 rfl (lv_at hl 0 rfl) ?_
  refine va_get (ci := 6) (v := .ref (xSk 1)) (C := R_Sk) (T := F_Sk) (N := 5) hx hb hts i_Sk hown hK hP 0 rfl rfl 0 (by decide) (hts _ m_137) (fun _ h9 => h9) rfl d_Sk_add_34 ?_
  refine lv_aload_n hx hb d_Sk_add_37 rfl (lv_at hl 0 rfl) ?_
  refine va_get (ci := 6) (v := .int (gSk 0 4)) (C := R_Sk) (T := F_Sk) (N := 5) hx hb hts i_Sk hown hK hP 0 rfl rfl 4 (by decide) (hts _ m_141) (fun _ h9 => h9) rfl d_Sk_add_38 ?_
  refine lv_iload_n hx hb d_Sk_add_41 rfl (lv_at hl 1 rfl) ?_
  obtain ⟨hi_5, h⟩ := gb_i h
  refine va_iast hx hb hK hP hD hS 1 0 rfl rfl (inb_in hi_5) d_Sk_add_42 (fun H locs hP hD hS => ?_)
  obtain ⟨gSk_6, egSk_6, h⟩ := letb_i h
  have hP : va_P D vwCl (wSk xSk cI cZ gSk_6) H := by rw [egSk_6, u_Sk_1]; exact hP
  have hD : va_D A (wSk xSk cI cZ gSk_6) := by rw [egSk_6, u_Sk_1]; exact hD
  refine lv_aload_n hx hb d_Sk_add_43 rfl (lv_at hl 0 rfl) ?_
  refine va_get (ci := 6) (v := .ref (xSk 2)) (C := R_Sk) (T := F_Sk) (N := 5) hx hb hts i_Sk hown hK hP 0 rfl rfl 1 (by decide) (hts _ m_138) (fun _ h9 => h9) rfl d_Sk_add_44 ?_
  refine lv_aload_n hx hb d_Sk_add_47 rfl (lv_at hl 0 rfl) ?_
  refine va_get (ci := 6) (v := .int (gSk_6 0 4)) (C := R_Sk) (T := F_Sk) (N := 5) hx hb hts i_Sk hown hK hP 0 rfl rfl 4 (by decide) (hts _ m_141) (fun _ h9 => h9) rfl d_Sk_add_48 ?_
  refine lv_iload_n hx hb d_Sk_add_51 rfl (lv_at hl 2 rfl) ?_
  obtain ⟨hi_7, h⟩ := gb_i h
  refine va_iast hx hb hK hP hD hS 2 0 rfl rfl (inb_in hi_7) d_Sk_add_52 (fun H locs hP hD hS => ?_)
  obtain ⟨gSk_8, egSk_8, h⟩ := letb_i h
  have hP : va_P D vwCl (wSk xSk cI cZ gSk_8) H := by rw [egSk_8, u_Sk_2]; exact hP
  have hD : va_D A (wSk xSk cI cZ gSk_8) := by rw [egSk_8, u_Sk_2]; exact hD
  refine lv_aload_n hx hb d_Sk_add_53 rfl (lv_at hl 0 rfl) ?_
  refine va_get (ci := 6) (v := .ref (xSk 3)) (C := R_Sk) (T := F_Sk) (N := 5) hx hb hts i_Sk hown hK hP 0 rfl rfl 2 (by decide) (hts _ m_139) (fun _ h9 => h9) rfl d_Sk_add_54 ?_
  refine lv_aload_n hx hb d_Sk_add_57 rfl (lv_at hl 0 rfl) ?_
  refine va_get (ci := 6) (v := .int (gSk_8 0 4)) (C := R_Sk) (T := F_Sk) (N := 5) hx hb hts i_Sk hown hK hP 0 rfl rfl 4 (by decide) (hts _ m_141) (fun _ h9 => h9) rfl d_Sk_add_58 ?_
  refine lv_iload_n hx hb d_Sk_add_61 rfl (lv_at hl 3 rfl) ?_
  obtain ⟨hi_9, h⟩ := gb_i h
  refine va_iast hx hb hK hP hD hS 3 0 rfl rfl (inb_in hi_9) d_Sk_add_62 (fun H locs hP hD hS => ?_)
  obtain ⟨gSk_10, egSk_10, h⟩ := letb_i h
  have hP : va_P D vwCl (wSk xSk cI cZ gSk_10) H := by rw [egSk_10, u_Sk_3]; exact hP
  have hD : va_D A (wSk xSk cI cZ gSk_10) := by rw [egSk_10, u_Sk_3]; exact hD
  refine lv_aload_n hx hb d_Sk_add_63 rfl (lv_at hl 0 rfl) ?_
  refine lv_dup hx hb d_Sk_add_64 rfl ?_
  refine va_get (ci := 6) (v := .int (gSk_10 0 4)) (C := R_Sk) (T := F_Sk) (N := 5) hx hb hts i_Sk hown hK hP 0 rfl rfl 4 (by decide) (hts _ m_141) (fun _ h9 => h9) rfl d_Sk_add_65 ?_
  refine lv_iconst (v := 1) hx hb d_Sk_add_68 (by decide) ?_
  refine lv_iadd hx hb d_Sk_add_69 ?_
  refine va_put (ci := 6) (v := .int ((gSk_10 0 4) + 1)) (ty := .int) (C := R_Sk) (T := F_Sk) (N := 5) hx hb hts i_Sk t_Sk o_Sk n_Sk hown hK hP hD hS 0 rfl rfl 4 (by decide) (hts _ m_141) (fun _ h9 => h9) rfl (by decide +kernel) rfl rfl (Nat.le_of_ble_eq_true rfl) d_Sk_add_70 (fun H locs hP hD hS => ?_)
  obtain ⟨gSk_11, egSk_11, h⟩ := letb_i h
  have hP : va_P D vwCl (wSk xSk cI cZ gSk_11) H := by rw [egSk_11, u_Sk_0_4]; exact hP
  have hD : va_D A (wSk xSk cI cZ gSk_11) := by rw [egSk_11, u_Sk_0_4]; exact hD
  refine lv_aload_n hx hb d_Sk_add_73 rfl (lv_at hl 0 rfl) ?_
  refine va_get (ci := 6) (v := .int (gSk_11 0 4)) (C := R_Sk) (T := F_Sk) (N := 5) hx hb hts i_Sk hown hK hP 0 rfl rfl 4 (by decide) (hts _ m_141) (fun _ h9 => h9) rfl d_Sk_add_74 ?_
  refine lv_iconst (v := 1) hx hb d_Sk_add_77 (by decide) ?_
  refine lv_isub hx hb d_Sk_add_78 ?_
  cases h
  rw [hQ]
  exact mi_ret C0 hr rfl hlk hP hD hS d_Sk_add_79
abbrev rm_Sk_add_t : Room := { frames := 7, cells := 1, slots := 6, locals := 104 }
set_option maxRecDepth 100000 in
set_option maxHeartbeats 4000000 in
theorem c_Sk_add_t (l : Launch) (hltr : l.stackTraces = false) (D : va_G) (cI cZ cJ : ClassId) (xSk : Nat → Nat) (sz : Nat) (gSk : St) (p1 : Int32) (p2 : Int32) (p3 : Int32) (E : String) (h : f_Sk_add gSk p1 p2 p3 = some (.inr E)) : MT l y_Sk_add b_Sk_add 4 (some .int) rm_Sk_add_t D (TYS cI cZ cJ) [.ref (xSk 0), .int p1, .int p2, .int p3] (wSk xSk cI cZ gSk) sz E := by
  refine mt_start (own := R_Sk) (by decide +kernel) rfl (Nat.le_of_ble_eq_true rfl) (fun p e s m args below meth c A ls C0 hAe hno hlk hP hD hS hl => ?_)
  obtain ⟨Q, hQ⟩ : ∃ Q, Q = QT below D (TYS cI cZ cJ) (wSk xSk cI cZ gSk) E args s := ⟨_, rfl⟩
  rw [← hQ]
  obtain ⟨hx, hb, -, hown, hts, hK, hE, -⟩ := id C0
  have hl : lv_has ls 4 [(0, .ref (xSk 0)), (1, .int p1), (2, .int p2), (3, .int p3)] := hl
  obtain ⟨H, hH⟩ : ∃ H, H = s.heap := ⟨_, rfl⟩
  have hP : va_P D vwCl (wSk xSk cI cZ gSk) H := by rw [hH]; exact hP
  have hS : va_S A s.heap H [] := by rw [hH]; exact hS
  rw [show W p l e rm_Sk_add_t s m args below meth c s.heap = W p l e rm_Sk_add_t s m args below meth c H by rw [hH]]
  generalize ([] : List Loc) = locs at hS ⊢
  unfold f_Sk_add at h
  refine lv_aload_n hx hb d_Sk_add_0 rfl (lv_at hl 0 rfl) ?_
  refine va_get (ci := 6) (v := .int (gSk 0 4)) (C := R_Sk) (T := F_Sk) (N := 5) hx hb hts i_Sk hown hK hP 0 rfl rfl 4 (by decide) (hts _ m_141) (fun _ h9 => h9) rfl d_Sk_add_1 ?_
  refine lv_bipush (v := 10) hx hb d_Sk_add_4 (by decide) ?_
  obtain ⟨hc_1, h⟩ | ⟨E9, hc_1, h⟩ := xc0_i h
  rotate_left
  · cases h
    rw [hQ]
    exact x_out C0 hAe hno hlk hP hD hS [] rfl rfl rfl (rN (As := [.int (gSk 0 4), .int 10]) (rest := []) C0 hP hD hS hl.1 [] (c_Cc_requireRoom_t l hltr D cI cZ cJ  H.size (gSk 0 4) 10 E hc_1) k_Cc_requireRoom (List.mem_of_getElem? (i := 8) rfl) rfl rfl ⟨by decide, by decide⟩ ⟨rfl, rfl⟩ rfl (Nat.le_of_ble_eq_true rfl) d_Sk_add_6 ⟨by decide, by decide⟩) ⟨rfl, rfl⟩
  refine cNv (ws' := (wSk xSk cI cZ gSk)) (As := [.int (gSk 0 4), .int 10]) (rest := []) C0 hP hD hS hl.1 [] (c_Cc_requireRoom_r l D cI cZ cJ  H.size (gSk 0 4) 10 hc_1) k_Cc_requireRoom (List.mem_of_getElem? (i := 8) rfl) rfl rfl rfl (rp_same rfl) ⟨by decide, by decide⟩ ⟨rfl, rfl⟩ rfl (Nat.le_of_ble_eq_true rfl) d_Sk_add_6 ⟨Nat.zero_le _, Nat.zero_le _⟩ (fun H locs hP hD hS => ?_)
  refine lv_iload_n hx hb d_Sk_add_9 rfl (lv_at hl 1 rfl) ?_
  refine lv_iconst (v := 1) hx hb d_Sk_add_10 (by decide) ?_
  refine lv_sipush (v := 2000) hx hb d_Sk_add_11 (by decide) ?_
  obtain ⟨hc_2, h⟩ | ⟨E9, hc_2, h⟩ := xc0_i h
  rotate_left
  · cases h
    rw [hQ]
    exact x_out C0 hAe hno hlk hP hD hS [] rfl rfl rfl (rN (As := [.int p1, .int 1, .int 2000]) (rest := []) C0 hP hD hS hl.1 [] (c_Cc_requireRange_t l hltr D cI cZ cJ  H.size p1 1 2000 E hc_2) k_Cc_requireRange (List.mem_of_getElem? (i := 9) rfl) rfl rfl ⟨by decide, by decide⟩ ⟨rfl, rfl⟩ rfl (Nat.le_of_ble_eq_true rfl) d_Sk_add_14 ⟨by decide, by decide⟩) ⟨rfl, rfl⟩
  refine cNv (ws' := (wSk xSk cI cZ gSk)) (As := [.int p1, .int 1, .int 2000]) (rest := []) C0 hP hD hS hl.1 [] (c_Cc_requireRange_r l D cI cZ cJ  H.size p1 1 2000 hc_2) k_Cc_requireRange (List.mem_of_getElem? (i := 9) rfl) rfl rfl rfl (rp_same rfl) ⟨by decide, by decide⟩ ⟨rfl, rfl⟩ rfl (Nat.le_of_ble_eq_true rfl) d_Sk_add_14 ⟨Nat.zero_le _, Nat.zero_le _⟩ (fun H locs hP hD hS => ?_)
  refine lv_iload_n hx hb d_Sk_add_17 rfl (lv_at hl 2 rfl) ?_
  refine lv_iconst (v := 1) hx hb d_Sk_add_18 (by decide) ?_
  refine lv_sipush (v := 2000) hx hb d_Sk_add_19 (by decide) ?_
  obtain ⟨hc_3, h⟩ | ⟨E9, hc_3, h⟩ := xc0_i h
  rotate_left
  · cases h
    rw [hQ]
    exact x_out C0 hAe hno hlk hP hD hS [] rfl rfl rfl (rN (As := [.int p2, .int 1, .int 2000]) (rest := []) C0 hP hD hS hl.1 [] (c_Cc_requireRange_t l hltr D cI cZ cJ  H.size p2 1 2000 E hc_3) k_Cc_requireRange (List.mem_of_getElem? (i := 9) rfl) rfl rfl ⟨by decide, by decide⟩ ⟨rfl, rfl⟩ rfl (Nat.le_of_ble_eq_true rfl) d_Sk_add_22 ⟨by decide, by decide⟩) ⟨rfl, rfl⟩
  refine cNv (ws' := (wSk xSk cI cZ gSk)) (As := [.int p2, .int 1, .int 2000]) (rest := []) C0 hP hD hS hl.1 [] (c_Cc_requireRange_r l D cI cZ cJ  H.size p2 1 2000 hc_3) k_Cc_requireRange (List.mem_of_getElem? (i := 9) rfl) rfl rfl rfl (rp_same rfl) ⟨by decide, by decide⟩ ⟨rfl, rfl⟩ rfl (Nat.le_of_ble_eq_true rfl) d_Sk_add_22 ⟨Nat.zero_le _, Nat.zero_le _⟩ (fun H locs hP hD hS => ?_)
  refine lv_iload_n hx hb d_Sk_add_25 rfl (lv_at hl 3 rfl) ?_
  refine lv_iconst (v := 1) hx hb d_Sk_add_26 (by decide) ?_
  refine lv_sipush (v := 2000) hx hb d_Sk_add_27 (by decide) ?_
  obtain ⟨hc_4, h⟩ | ⟨E9, hc_4, h⟩ := xc0_i h
  rotate_left
  · cases h
    rw [hQ]
    exact x_out C0 hAe hno hlk hP hD hS [] rfl rfl rfl (rN (As := [.int p3, .int 1, .int 2000]) (rest := []) C0 hP hD hS hl.1 [] (c_Cc_requireRange_t l hltr D cI cZ cJ  H.size p3 1 2000 E hc_4) k_Cc_requireRange (List.mem_of_getElem? (i := 9) rfl) rfl rfl ⟨by decide, by decide⟩ ⟨rfl, rfl⟩ rfl (Nat.le_of_ble_eq_true rfl) d_Sk_add_30 ⟨by decide, by decide⟩) ⟨rfl, rfl⟩
  refine cNv (ws' := (wSk xSk cI cZ gSk)) (As := [.int p3, .int 1, .int 2000]) (rest := []) C0 hP hD hS hl.1 [] (c_Cc_requireRange_r l D cI cZ cJ  H.size p3 1 2000 hc_4) k_Cc_requireRange (List.mem_of_getElem? (i := 9) rfl) rfl rfl rfl (rp_same rfl) ⟨by decide, by decide⟩ ⟨rfl, rfl⟩ rfl (Nat.le_of_ble_eq_true rfl) d_Sk_add_30 ⟨Nat.zero_le _, Nat.zero_le _⟩ (fun H locs hP hD hS => ?_)
  refine lv_aload_n hx hb d_Sk_add_33 rfl (lv_at hl 0 rfl) ?_
  refine va_get (ci := 6) (v := .ref (xSk 1)) (C := R_Sk) (T := F_Sk) (N := 5) hx hb hts i_Sk hown hK hP 0 rfl rfl 0 (by decide) (hts _ m_137) (fun _ h9 => h9) rfl d_Sk_add_34 ?_
  refine lv_aload_n hx hb d_Sk_add_37 rfl (lv_at hl 0 rfl) ?_
  refine va_get (ci := 6) (v := .int (gSk 0 4)) (C := R_Sk) (T := F_Sk) (N := 5) hx hb hts i_Sk hown hK hP 0 rfl rfl 4 (by decide) (hts _ m_141) (fun _ h9 => h9) rfl d_Sk_add_38 ?_
  refine lv_iload_n hx hb d_Sk_add_41 rfl (lv_at hl 1 rfl) ?_
  obtain ⟨hi_5, h⟩ := gb_i h
  refine va_iast hx hb hK hP hD hS 1 0 rfl rfl (inb_in hi_5) d_Sk_add_42 (fun H locs hP hD hS => ?_)
  obtain ⟨gSk_6, egSk_6, h⟩ := letb_i h
  have hP : va_P D vwCl (wSk xSk cI cZ gSk_6) H := by rw [egSk_6, u_Sk_1]; exact hP
  have hD : va_D A (wSk xSk cI cZ gSk_6) := by rw [egSk_6, u_Sk_1]; exact hD
  refine lv_aload_n hx hb d_Sk_add_43 rfl (lv_at hl 0 rfl) ?_
  refine va_get (ci := 6) (v := .ref (xSk 2)) (C := R_Sk) (T := F_Sk) (N := 5) hx hb hts i_Sk hown hK hP 0 rfl rfl 1 (by decide) (hts _ m_138) (fun _ h9 => h9) rfl d_Sk_add_44 ?_
  refine lv_aload_n hx hb d_Sk_add_47 rfl (lv_at hl 0 rfl) ?_
  refine va_get (ci := 6) (v := .int (gSk_6 0 4)) (C := R_Sk) (T := F_Sk) (N := 5) hx hb hts i_Sk hown hK hP 0 rfl rfl 4 (by decide) (hts _ m_141) (fun _ h9 => h9) rfl d_Sk_add_48 ?_
  refine lv_iload_n hx hb d_Sk_add_51 rfl (lv_at hl 2 rfl) ?_
  obtain ⟨hi_7, h⟩ := gb_i h
  refine va_iast hx hb hK hP hD hS 2 0 rfl rfl (inb_in hi_7) d_Sk_add_52 (fun H locs hP hD hS => ?_)
  obtain ⟨gSk_8, egSk_8, h⟩ := letb_i h
  have hP : va_P D vwCl (wSk xSk cI cZ gSk_8) H := by rw [egSk_8, u_Sk_2]; exact hP
  have hD : va_D A (wSk xSk cI cZ gSk_8) := by rw [egSk_8, u_Sk_2]; exact hD
  refine lv_aload_n hx hb d_Sk_add_53 rfl (lv_at hl 0 rfl) ?_
  refine va_get (ci := 6) (v := .ref (xSk 3)) (C := R_Sk) (T := F_Sk) (N := 5) hx hb hts i_Sk hown hK hP 0 rfl rfl 2 (by decide) (hts _ m_139) (fun _ h9 => h9) rfl d_Sk_add_54 ?_
  refine lv_aload_n hx hb d_Sk_add_57 rfl (lv_at hl 0 rfl) ?_
  refine va_get (ci := 6) (v := .int (gSk_8 0 4)) (C := R_Sk) (T := F_Sk) (N := 5) hx hb hts i_Sk hown hK hP 0 rfl rfl 4 (by decide) (hts _ m_141) (fun _ h9 => h9) rfl d_Sk_add_58 ?_
  refine lv_iload_n hx hb d_Sk_add_61 rfl (lv_at hl 3 rfl) ?_
  obtain ⟨hi_9, h⟩ := gb_i h
  refine va_iast hx hb hK hP hD hS 3 0 rfl rfl (inb_in hi_9) d_Sk_add_62 (fun H locs hP hD hS => ?_)
  obtain ⟨gSk_10, egSk_10, h⟩ := letb_i h
  have hP : va_P D vwCl (wSk xSk cI cZ gSk_10) H := by rw [egSk_10, u_Sk_3]; exact hP
  have hD : va_D A (wSk xSk cI cZ gSk_10) := by rw [egSk_10, u_Sk_3]; exact hD
  refine lv_aload_n hx hb d_Sk_add_63 rfl (lv_at hl 0 rfl) ?_
  refine lv_dup hx hb d_Sk_add_64 rfl ?_
  refine va_get (ci := 6) (v := .int (gSk_10 0 4)) (C := R_Sk) (T := F_Sk) (N := 5) hx hb hts i_Sk hown hK hP 0 rfl rfl 4 (by decide) (hts _ m_141) (fun _ h9 => h9) rfl d_Sk_add_65 ?_
  refine lv_iconst (v := 1) hx hb d_Sk_add_68 (by decide) ?_
  refine lv_iadd hx hb d_Sk_add_69 ?_
  refine va_put (ci := 6) (v := .int ((gSk_10 0 4) + 1)) (ty := .int) (C := R_Sk) (T := F_Sk) (N := 5) hx hb hts i_Sk t_Sk o_Sk n_Sk hown hK hP hD hS 0 rfl rfl 4 (by decide) (hts _ m_141) (fun _ h9 => h9) rfl (by decide +kernel) rfl rfl (Nat.le_of_ble_eq_true rfl) d_Sk_add_70 (fun H locs hP hD hS => ?_)
  obtain ⟨gSk_11, egSk_11, h⟩ := letb_i h
  have hP : va_P D vwCl (wSk xSk cI cZ gSk_11) H := by rw [egSk_11, u_Sk_0_4]; exact hP
  have hD : va_D A (wSk xSk cI cZ gSk_11) := by rw [egSk_11, u_Sk_0_4]; exact hD
  refine lv_aload_n hx hb d_Sk_add_73 rfl (lv_at hl 0 rfl) ?_
  refine va_get (ci := 6) (v := .int (gSk_11 0 4)) (C := R_Sk) (T := F_Sk) (N := 5) hx hb hts i_Sk hown hK hP 0 rfl rfl 4 (by decide) (hts _ m_141) (fun _ h9 => h9) rfl d_Sk_add_74 ?_
  refine lv_iconst (v := 1) hx hb d_Sk_add_77 (by decide) ?_
  refine lv_isub hx hb d_Sk_add_78 ?_
  cases h
abbrev rm_Sk_hasRoom_r : Room := { frames := 0, cells := 0, slots := 0, locals := 0 }
set_option maxRecDepth 100000 in
set_option maxHeartbeats 4000000 in
theorem c_Sk_hasRoom_r (l : Launch) (D : va_G) (cI cZ cJ : ClassId) (xSk : Nat → Nat) (sz : Nat) (gSk : St) (p1 : Int32) (p2 : Int32) (p3 : Int32) (p4 : Int32) (r : Int32) (h : f_Sk_hasRoom gSk p1 p2 p3 p4 = some r) : MI l y_Sk_hasRoom b_Sk_hasRoom 7 (some .boolean) rm_Sk_hasRoom_r D (TYS cI cZ cJ) [.ref (xSk 0), .int p1, .int p2, .int p3, .int p4] (wSk xSk cI cZ gSk) sz r (wSk xSk cI cZ gSk) := by
  refine mi_start (own := R_Sk) (by decide +kernel) rfl (Nat.le_of_ble_eq_true rfl) (fun p e s m args below meth c A ls C0 hr hlk hP hD hS hl => ?_)
  obtain ⟨Q, hQ⟩ : ∃ Q, Q = QI below D (TYS cI cZ cJ) A (wSk xSk cI cZ gSk) r args s := ⟨_, rfl⟩
  rw [← hQ]
  obtain ⟨hx, hb, -, hown, hts, hK, hE, -⟩ := id C0
  have hl : lv_has ls 7 [(0, .ref (xSk 0)), (1, .int p1), (2, .int p2), (3, .int p3), (4, .int p4)] := hl
  obtain ⟨H, hH⟩ : ∃ H, H = s.heap := ⟨_, rfl⟩
  have hP : va_P D vwCl (wSk xSk cI cZ gSk) H := by rw [hH]; exact hP
  have hS : va_S A s.heap H [] := by rw [hH]; exact hS
  rw [show W p l e rm_Sk_hasRoom_r s m args below meth c s.heap = W p l e rm_Sk_hasRoom_r s m args below meth c H by rw [hH]]
  generalize ([] : List Loc) = locs at hS ⊢
  unfold f_Sk_hasRoom at h
  refine lv_iload_n hx hb d_Sk_hasRoom_0 rfl (lv_at hl 2 rfl) ?_
  refine lv_aload_n hx hb d_Sk_hasRoom_1 rfl (lv_at hl 0 rfl) ?_
  refine va_get (ci := 6) (v := .ref (xSk 1)) (C := R_Sk) (T := F_Sk) (N := 5) hx hb hts i_Sk hown hK hP 0 rfl rfl 0 (by decide) (hts _ m_137) (fun _ h9 => h9) rfl d_Sk_hasRoom_2 ?_
  refine lv_iload_n hx hb d_Sk_hasRoom_5 rfl (lv_at hl 1 rfl) ?_
  obtain ⟨hi_1, h⟩ := gb_i h
  refine va_iald hx hb hK hP 1 0 rfl rfl (inb_in hi_1) d_Sk_hasRoom_6 ?_
  obtain ⟨x_2, ex_2, h⟩ := letb_i h
  refine lv_topn ex_2 ?_
  have K25 : ∀ (s0_25 : Int32) (H : Heap) (locs : List Loc) (ls : Array Slot), va_P D vwCl (wSk xSk cI cZ gSk) H → va_D A (wSk xSk cI cZ gSk) → va_S A s.heap H locs → lv_has ls 7 [(0, .ref (xSk 0)), (1, .int p1), (2, .int p2), (3, .int p3), (4, .int p4)] → f_Sk_hasRoom_J25 gSk p1 p2 p3 p4 s0_25 = some r → W p l e rm_Sk_hasRoom_r s m args below meth c H locs 0 0 Q (F0 m 25 ls [.int s0_25]) := by
    intro s0_25 H locs ls hP hD hS hl h
    unfold f_Sk_hasRoom_J25 at h
    refine lv_istore (lv' := [(5, .int s0_25), (0, .ref (xSk 0)), (1, .int p1), (2, .int p2), (3, .int p3), (4, .int p4)]) hx hb d_Sk_hasRoom_25 hl (by decide) rfl (fun ls hl => ?_)
    refine lv_iload_n hx hb d_Sk_hasRoom_27 rfl (lv_at hl 4 rfl) ?_
    refine lv_aload_n hx hb d_Sk_hasRoom_28 rfl (lv_at hl 1 rfl) ?_
    refine va_get (ci := 6) (v := .ref (xSk 1)) (C := R_Sk) (T := F_Sk) (N := 5) hx hb hts i_Sk hown hK hP 0 rfl rfl 0 (by decide) (hts _ m_137) (fun _ h9 => h9) rfl d_Sk_hasRoom_29 ?_
    refine lv_iload_n hx hb d_Sk_hasRoom_32 rfl (lv_at hl 2 rfl) ?_
    obtain ⟨hi_3, h⟩ := gb_i h
    refine va_iald hx hb hK hP 1 0 rfl rfl (inb_in hi_3) d_Sk_hasRoom_33 ?_
    obtain ⟨x_4, ex_4, h⟩ := letb_i h
    refine lv_topn ex_4 ?_
    have K52 : ∀ (s0_52 : Int32) (v5_52 : Int32) (H : Heap) (locs : List Loc) (ls : Array Slot), va_P D vwCl (wSk xSk cI cZ gSk) H → va_D A (wSk xSk cI cZ gSk) → va_S A s.heap H locs → lv_has ls 7 [(0, .ref (xSk 0)), (1, .int p1), (2, .int p2), (3, .int p3), (4, .int p4), (5, .int v5_52)] → f_Sk_hasRoom_J52 gSk p1 p4 s0_52 v5_52 = some r → W p l e rm_Sk_hasRoom_r s m args below meth c H locs 0 0 Q (F0 m 52 ls [.int s0_52]) := by
      intro s0_52 v5_52 H locs ls hP hD hS hl h
      unfold f_Sk_hasRoom_J52 at h
      refine lv_istore (lv' := [(6, .int s0_52), (0, .ref (xSk 0)), (1, .int p1), (2, .int p2), (3, .int p3), (4, .int p4), (5, .int v5_52)]) hx hb d_Sk_hasRoom_52 hl (by decide) rfl (fun ls hl => ?_)
      refine lv_iload hx hb d_Sk_hasRoom_54 (lv_at hl 5 rfl) ?_
      refine lv_aload_n hx hb d_Sk_hasRoom_56 rfl (lv_at hl 1 rfl) ?_
      refine va_get (ci := 6) (v := .ref (xSk 3)) (C := R_Sk) (T := F_Sk) (N := 5) hx hb hts i_Sk hown hK hP 0 rfl rfl 2 (by decide) (hts _ m_139) (fun _ h9 => h9) rfl d_Sk_hasRoom_57 ?_
      refine lv_iload_n hx hb d_Sk_hasRoom_60 rfl (lv_at hl 2 rfl) ?_
      obtain ⟨hi_5, h⟩ := gb_i h
      refine va_iald hx hb hK hP 3 0 rfl rfl (inb_in hi_5) d_Sk_hasRoom_61 ?_
      obtain ⟨x_6, ex_6, h⟩ := letb_i h
      refine lv_topn ex_6 ?_
      refine lv_icmp_gt (tgt := 79) hx hb d_Sk_hasRoom_62 (by decide) (fun c_7 => ?_) (fun c_7 => ?_)
      · rw [if_pos c_7] at h
        refine lv_iconst (v := 0) hx hb d_Sk_hasRoom_79 (by decide) ?_
        cases h
        rw [hQ]
        exact mi_ret C0 hr rfl hlk hP hD hS d_Sk_hasRoom_80
      · rw [if_neg c_7] at h
        refine lv_iload hx hb d_Sk_hasRoom_65 (lv_at hl 6 rfl) ?_
        have K75 : ∀ (v5_75 : Int32) (v6_75 : Int32) (H : Heap) (locs : List Loc) (ls : Array Slot), va_P D vwCl (wSk xSk cI cZ gSk) H → va_D A (wSk xSk cI cZ gSk) → va_S A s.heap H locs → lv_has ls 7 [(0, .ref (xSk 0)), (1, .int p1), (2, .int p2), (3, .int p3), (4, .int p4), (5, .int v5_75), (6, .int v6_75)] → f_Sk_hasRoom_J75 v5_75 v6_75 = some r → W p l e rm_Sk_hasRoom_r s m args below meth c H locs 0 0 Q (F0 m 75 ls []) := by
          intro v5_75 v6_75 H locs ls hP hD hS hl h
          unfold f_Sk_hasRoom_J75 at h
          refine lv_iconst (v := 1) hx hb d_Sk_hasRoom_75 (by decide) ?_
          refine lv_goto (tgt := 80) hx hb d_Sk_hasRoom_76 (by decide) ?_
          cases h
          rw [hQ]
          exact mi_ret C0 hr rfl hlk hP hD hS d_Sk_hasRoom_80
        refine lv_if_ne (tgt := 75) hx hb d_Sk_hasRoom_67 (by decide) (fun c_8 => ?_) (fun c_8 => ?_)
        · rw [if_neg c_8] at h
          exact K75 v5_52 s0_52 H locs ls hP hD hS (lv_sub hl [1, 2, 3, 4, 5, 6, 0] rfl) h
        · rw [if_pos c_8] at h
          refine lv_iload hx hb d_Sk_hasRoom_70 (lv_at hl 0 rfl) ?_
          refine lv_if_eq (tgt := 79) hx hb d_Sk_hasRoom_72 (by decide) (fun c_9 => ?_) (fun c_9 => ?_)
          · rw [if_pos c_9] at h
            refine lv_iconst (v := 0) hx hb d_Sk_hasRoom_79 (by decide) ?_
            cases h
            rw [hQ]
            exact mi_ret C0 hr rfl hlk hP hD hS d_Sk_hasRoom_80
          · rw [if_neg c_9] at h
            exact K75 v5_52 s0_52 H locs ls hP hD hS (lv_sub hl [1, 2, 3, 4, 5, 6, 0] rfl) h
    have K51 : ∀ (v5_51 : Int32) (H : Heap) (locs : List Loc) (ls : Array Slot), va_P D vwCl (wSk xSk cI cZ gSk) H → va_D A (wSk xSk cI cZ gSk) → va_S A s.heap H locs → lv_has ls 7 [(0, .ref (xSk 0)), (1, .int p1), (2, .int p2), (3, .int p3), (4, .int p4), (5, .int v5_51)] → f_Sk_hasRoom_J51 gSk p1 p4 v5_51 = some r → W p l e rm_Sk_hasRoom_r s m args below meth c H locs 0 0 Q (F0 m 51 ls []) := by
      intro v5_51 H locs ls hP hD hS hl h
      unfold f_Sk_hasRoom_J51 at h
      refine lv_iconst (v := 0) hx hb d_Sk_hasRoom_51 (by decide) ?_
      exact K52 0 v5_51 H locs ls hP hD hS (lv_sub hl [0, 1, 2, 3, 4, 5] rfl) h
    refine lv_icmp_gt (tgt := 51) hx hb d_Sk_hasRoom_34 (by decide) (fun c_10 => ?_) (fun c_10 => ?_)
    · rw [if_pos c_10] at h
      exact K51 s0_25 H locs ls hP hD hS (lv_sub hl [1, 2, 3, 4, 5, 0] rfl) h
    · rw [if_neg c_10] at h
      refine lv_iload_n hx hb d_Sk_hasRoom_37 rfl (lv_at hl 3 rfl) ?_
      refine lv_aload_n hx hb d_Sk_hasRoom_38 rfl (lv_at hl 1 rfl) ?_
      refine va_get (ci := 6) (v := .ref (xSk 2)) (C := R_Sk) (T := F_Sk) (N := 5) hx hb hts i_Sk hown hK hP 0 rfl rfl 1 (by decide) (hts _ m_138) (fun _ h9 => h9) rfl d_Sk_hasRoom_39 ?_
      refine lv_iload_n hx hb d_Sk_hasRoom_42 rfl (lv_at hl 2 rfl) ?_
      obtain ⟨hi_11, h⟩ := gb_i h
      refine va_iald hx hb hK hP 2 0 rfl rfl (inb_in hi_11) d_Sk_hasRoom_43 ?_
      obtain ⟨x_12, ex_12, h⟩ := letb_i h
      refine lv_topn ex_12 ?_
      refine lv_icmp_gt (tgt := 51) hx hb d_Sk_hasRoom_44 (by decide) (fun c_13 => ?_) (fun c_13 => ?_)
      · rw [if_pos c_13] at h
        exact K51 s0_25 H locs ls hP hD hS (lv_sub hl [1, 2, 3, 4, 5, 0] rfl) h
      · rw [if_neg c_13] at h
        refine lv_iconst (v := 1) hx hb d_Sk_hasRoom_47 (by decide) ?_
        refine lv_goto (tgt := 52) hx hb d_Sk_hasRoom_48 (by decide) ?_
        exact K52 1 s0_25 H locs ls hP hD hS (lv_sub hl [1, 2, 3, 4, 5, 0] rfl) h
  have K24 : ∀ (H : Heap) (locs : List Loc) (ls : Array Slot), va_P D vwCl (wSk xSk cI cZ gSk) H → va_D A (wSk xSk cI cZ gSk) → va_S A s.heap H locs → lv_has ls 7 [(0, .ref (xSk 0)), (1, .int p1), (2, .int p2), (3, .int p3), (4, .int p4)] → f_Sk_hasRoom_J24 gSk p1 p2 p3 p4 = some r → W p l e rm_Sk_hasRoom_r s m args below meth c H locs 0 0 Q (F0 m 24 ls []) := by
    intro  H locs ls hP hD hS hl h
    unfold f_Sk_hasRoom_J24 at h
    refine lv_iconst (v := 0) hx hb d_Sk_hasRoom_24 (by decide) ?_
    exact K25 0 H locs ls hP hD hS (lv_sub hl [0, 1, 2, 3, 4] rfl) h
  refine lv_icmp_gt (tgt := 24) hx hb d_Sk_hasRoom_7 (by decide) (fun c_14 => ?_) (fun c_14 => ?_)
  · rw [if_pos c_14] at h
    exact K24  H locs ls hP hD hS (lv_sub hl [0, 1, 2, 3, 4] rfl) h
  · rw [if_neg c_14] at h
    refine lv_iload_n hx hb d_Sk_hasRoom_10 rfl (lv_at hl 3 rfl) ?_
    refine lv_aload_n hx hb d_Sk_hasRoom_11 rfl (lv_at hl 0 rfl) ?_
    refine va_get (ci := 6) (v := .ref (xSk 2)) (C := R_Sk) (T := F_Sk) (N := 5) hx hb hts i_Sk hown hK hP 0 rfl rfl 1 (by decide) (hts _ m_138) (fun _ h9 => h9) rfl d_Sk_hasRoom_12 ?_
    refine lv_iload_n hx hb d_Sk_hasRoom_15 rfl (lv_at hl 1 rfl) ?_
    obtain ⟨hi_15, h⟩ := gb_i h
    refine va_iald hx hb hK hP 2 0 rfl rfl (inb_in hi_15) d_Sk_hasRoom_16 ?_
    obtain ⟨x_16, ex_16, h⟩ := letb_i h
    refine lv_topn ex_16 ?_
    refine lv_icmp_gt (tgt := 24) hx hb d_Sk_hasRoom_17 (by decide) (fun c_17 => ?_) (fun c_17 => ?_)
    · rw [if_pos c_17] at h
      exact K24  H locs ls hP hD hS (lv_sub hl [0, 1, 2, 3, 4] rfl) h
    · rw [if_neg c_17] at h
      refine lv_iconst (v := 1) hx hb d_Sk_hasRoom_20 (by decide) ?_
      refine lv_goto (tgt := 25) hx hb d_Sk_hasRoom_21 (by decide) ?_
      exact K25 1 H locs ls hP hD hS (lv_sub hl [0, 1, 2, 3, 4] rfl) h
abbrev rm_Sk_takeFor_r : Room := { frames := 1, cells := 0, slots := 0, locals := 26 }
set_option maxRecDepth 100000 in
set_option maxHeartbeats 4000000 in
theorem c_Sk_takeFor_r (l : Launch) (D : va_G) (cI cZ cJ : ClassId) (xSk : Nat → Nat) (sz : Nat) (gSk : St) (p1 : Int32) (p2 : Int32) (p3 : Int32) (r : Int32) (gSk1 : St) (h : f_Sk_takeFor gSk p1 p2 p3 = some (r, gSk1)) : MI l y_Sk_takeFor b_Sk_takeFor 10 (some .int) rm_Sk_takeFor_r D (TYS cI cZ cJ) [.ref (xSk 0), .int p1, .int p2, .int p3] (wSk xSk cI cZ gSk) sz r (wSk xSk cI cZ gSk1) := by
  refine mi_start (own := R_Sk) (by decide +kernel) rfl (Nat.le_of_ble_eq_true rfl) (fun p e s m args below meth c A ls C0 hr hlk hP hD hS hl => ?_)
  obtain ⟨Q, hQ⟩ : ∃ Q, Q = QI below D (TYS cI cZ cJ) A (wSk xSk cI cZ gSk1) r args s := ⟨_, rfl⟩
  rw [← hQ]
  obtain ⟨hx, hb, -, hown, hts, hK, hE, -⟩ := id C0
  have hl : lv_has ls 10 [(0, .ref (xSk 0)), (1, .int p1), (2, .int p2), (3, .int p3)] := hl
  obtain ⟨H, hH⟩ : ∃ H, H = s.heap := ⟨_, rfl⟩
  have hP : va_P D vwCl (wSk xSk cI cZ gSk) H := by rw [hH]; exact hP
  have hS : va_S A s.heap H [] := by rw [hH]; exact hS
  rw [show W p l e rm_Sk_takeFor_r s m args below meth c s.heap = W p l e rm_Sk_takeFor_r s m args below meth c H by rw [hH]]
  generalize ([] : List Loc) = locs at hS ⊢
  unfold f_Sk_takeFor at h
  refine lv_iconst (v := (-1)) hx hb d_Sk_takeFor_0 (by decide) ?_
  refine lv_istore (lv' := [(4, .int (-1)), (0, .ref (xSk 0)), (1, .int p1), (2, .int p2), (3, .int p3)]) hx hb d_Sk_takeFor_1 hl (by decide) rfl (fun ls hl => ?_)
  refine lv_ldc2 hx hb hown (hts _ m_548) d_Sk_takeFor_3 ?_
  refine lv_lstore (lv' := [(5, .long 9223372036854775807), (4, .int (-1)), (0, .ref (xSk 0)), (1, .int p1), (2, .int p2), (3, .int p3)]) hx hb d_Sk_takeFor_6 hl (by decide) rfl (fun ls hl => ?_)
  refine lv_iconst (v := 0) hx hb d_Sk_takeFor_8 (by decide) ?_
  refine lv_istore (lv' := [(7, .int 0), (5, .long 9223372036854775807), (4, .int (-1)), (0, .ref (xSk 0)), (1, .int p1), (2, .int p2), (3, .int p3)]) hx hb d_Sk_takeFor_9 hl (by decide) rfl (fun ls hl => ?_)
  have K92 : ∀ (v4_92 : Int32) (v5_92 : Int64) (v7_92 : Int32) (H : Heap) (locs : List Loc) (ls : Array Slot), va_P D vwCl (wSk xSk cI cZ gSk) H → va_D A (wSk xSk cI cZ gSk) → va_S A s.heap H locs → lv_has ls 10 [(0, .ref (xSk 0)), (1, .int p1), (2, .int p2), (3, .int p3), (4, .int v4_92), (5, .long v5_92), (7, .int v7_92)] → f_Sk_takeFor_X92 gSk v4_92 v5_92 v7_92 = some (r, gSk1) → W p l e rm_Sk_takeFor_r s m args below meth c H locs 0 0 Q (F0 m 92 ls []) := by
    intro v4_92 v5_92 v7_92 H locs ls hP hD hS hl h
    unfold f_Sk_takeFor_X92 at h
    refine lv_iload hx hb d_Sk_takeFor_92 (lv_at hl 4 rfl) ?_
    refine lv_iconst (v := (-1)) hx hb d_Sk_takeFor_94 (by decide) ?_
    refine lv_icmp_eq (tgt := 106) hx hb d_Sk_takeFor_95 (by decide) (fun c_1 => ?_) (fun c_1 => ?_)
    · rw [if_pos c_1] at h
      refine lv_iload hx hb d_Sk_takeFor_106 (lv_at hl 4 rfl) ?_
      cases h
      rw [hQ]
      exact mi_ret C0 hr rfl hlk hP hD hS d_Sk_takeFor_108
    · rw [if_neg c_1] at h
      refine lv_aload_n hx hb d_Sk_takeFor_98 rfl (lv_at hl 0 rfl) ?_
      refine va_get (ci := 6) (v := .ref (xSk 4)) (C := R_Sk) (T := F_Sk) (N := 5) hx hb hts i_Sk hown hK hP 0 rfl rfl 3 (by decide) (hts _ m_140) (fun _ h9 => h9) rfl d_Sk_takeFor_99 ?_
      refine lv_iload hx hb d_Sk_takeFor_102 (lv_at hl 4 rfl) ?_
      refine lv_iconst (v := 1) hx hb d_Sk_takeFor_104 (by decide) ?_
      obtain ⟨hi_2, h⟩ := gb_i h
      refine va_zast hx hb hK hP hD hS 4 1 rfl rfl (inb_in hi_2) d_Sk_takeFor_105 (fun H locs hP hD hS => ?_)
      obtain ⟨gSk_3, egSk_3, h⟩ := letb_i h
      have hP : va_P D vwCl (wSk xSk cI cZ gSk_3) H := by rw [egSk_3, u_Sk_4]; exact hP
      have hD : va_D A (wSk xSk cI cZ gSk_3) := by rw [egSk_3, u_Sk_4]; exact hD
      refine lv_iload hx hb d_Sk_takeFor_106 (lv_at hl 4 rfl) ?_
      cases h
      rw [hQ]
      exact mi_ret C0 hr rfl hlk hP hD hS d_Sk_takeFor_108
  have K11 : ∀ (n : Nat) (v4_11 : Int32) (v5_11 : Int64) (v7_11 : Int32) (H : Heap) (locs : List Loc) (ls : Array Slot), va_P D vwCl (wSk xSk cI cZ gSk) H → va_D A (wSk xSk cI cZ gSk) → va_S A s.heap H locs → lv_has ls 10 [(0, .ref (xSk 0)), (1, .int p1), (2, .int p2), (3, .int p3), (4, .int v4_11), (5, .long v5_11), (7, .int v7_11)] → it3 (f_Sk_takeFor_L11 gSk p1 p2 p3) n v4_11 v5_11 v7_11 = some (r, gSk1) → W p l e rm_Sk_takeFor_r s m args below meth c H locs 0 0 Q (F0 m 11 ls []) := by
    intro n
    induction n with
    | zero => intro v4_11 v5_11 v7_11 H locs ls hP hD hS hl h; exact (it3_0 h).elim
    | succ n ih =>
      intro v4_11 v5_11 v7_11 H locs ls hP hD hS hl h
      rw [it3_s, f_Sk_takeFor_L11] at h
      generalize it3 (f_Sk_takeFor_L11 gSk p1 p2 p3) n = kc_11 at h ih
      refine lv_iload hx hb d_Sk_takeFor_11 (lv_at hl 6 rfl) ?_
      refine lv_aload_n hx hb d_Sk_takeFor_13 rfl (lv_at hl 0 rfl) ?_
      refine va_get (ci := 6) (v := .int (gSk 0 4)) (C := R_Sk) (T := F_Sk) (N := 5) hx hb hts i_Sk hown hK hP 0 rfl rfl 4 (by decide) (hts _ m_141) (fun _ h9 => h9) rfl d_Sk_takeFor_14 ?_
      refine lv_icmp_ge (tgt := 92) hx hb d_Sk_takeFor_17 (by decide) (fun c_4 => ?_) (fun c_4 => ?_)
      · rw [if_pos c_4] at h
        exact K92 v4_11 v5_11 v7_11 H locs ls hP hD hS (lv_sub hl [0, 1, 2, 3, 4, 5, 6] rfl) h
      · rw [if_neg c_4] at h
        refine lv_aload_n hx hb d_Sk_takeFor_20 rfl (lv_at hl 0 rfl) ?_
        refine va_get (ci := 6) (v := .ref (xSk 1)) (C := R_Sk) (T := F_Sk) (N := 5) hx hb hts i_Sk hown hK hP 0 rfl rfl 0 (by decide) (hts _ m_137) (fun _ h9 => h9) rfl d_Sk_takeFor_21 ?_
        refine lv_iload hx hb d_Sk_takeFor_24 (lv_at hl 6 rfl) ?_
        obtain ⟨hi_5, h⟩ := gb_i h
        refine va_iald hx hb hK hP 1 0 rfl rfl (inb_in hi_5) d_Sk_takeFor_26 ?_
        obtain ⟨x_6, ex_6, h⟩ := letb_i h
        refine lv_topn ex_6 ?_
        refine lv_i2l (v := (x_6 : Int32).toInt64) hx hb d_Sk_takeFor_27 rfl ?_
        refine lv_aload_n hx hb d_Sk_takeFor_28 rfl (lv_at hl 0 rfl) ?_
        refine va_get (ci := 6) (v := .ref (xSk 2)) (C := R_Sk) (T := F_Sk) (N := 5) hx hb hts i_Sk hown hK hP 0 rfl rfl 1 (by decide) (hts _ m_138) (fun _ h9 => h9) rfl d_Sk_takeFor_29 ?_
        refine lv_iload hx hb d_Sk_takeFor_32 (lv_at hl 6 rfl) ?_
        obtain ⟨hi_7, h⟩ := gb_i h
        refine va_iald hx hb hK hP 2 0 rfl rfl (inb_in hi_7) d_Sk_takeFor_34 ?_
        obtain ⟨x_8, ex_8, h⟩ := letb_i h
        refine lv_topn ex_8 ?_
        refine lv_i2l (v := (x_8 : Int32).toInt64) hx hb d_Sk_takeFor_35 rfl ?_
        refine lv_lmul hx hb d_Sk_takeFor_36 ?_
        refine lv_aload_n hx hb d_Sk_takeFor_37 rfl (lv_at hl 0 rfl) ?_
        refine va_get (ci := 6) (v := .ref (xSk 3)) (C := R_Sk) (T := F_Sk) (N := 5) hx hb hts i_Sk hown hK hP 0 rfl rfl 2 (by decide) (hts _ m_139) (fun _ h9 => h9) rfl d_Sk_takeFor_38 ?_
        refine lv_iload hx hb d_Sk_takeFor_41 (lv_at hl 6 rfl) ?_
        obtain ⟨hi_9, h⟩ := gb_i h
        refine va_iald hx hb hK hP 3 0 rfl rfl (inb_in hi_9) d_Sk_takeFor_43 ?_
        obtain ⟨x_10, ex_10, h⟩ := letb_i h
        refine lv_topn ex_10 ?_
        refine lv_i2l (v := (x_10 : Int32).toInt64) hx hb d_Sk_takeFor_44 rfl ?_
        refine lv_lmul hx hb d_Sk_takeFor_45 ?_
        obtain ⟨x_11, ex_11, h⟩ := letb_i h
        refine lv_topnl ex_11 ?_
        refine lv_lstore (lv' := [(8, .long x_11), (0, .ref (xSk 0)), (1, .int p1), (2, .int p2), (3, .int p3), (4, .int v4_11), (5, .long v5_11), (7, .int v7_11)]) hx hb d_Sk_takeFor_46 hl (by decide) rfl (fun ls hl => ?_)
        refine lv_aload_n hx hb d_Sk_takeFor_48 rfl (lv_at hl 1 rfl) ?_
        refine va_get (ci := 6) (v := .ref (xSk 4)) (C := R_Sk) (T := F_Sk) (N := 5) hx hb hts i_Sk hown hK hP 0 rfl rfl 3 (by decide) (hts _ m_140) (fun _ h9 => h9) rfl d_Sk_takeFor_49 ?_
        refine lv_iload hx hb d_Sk_takeFor_52 (lv_at hl 7 rfl) ?_
        obtain ⟨hi_12, h⟩ := gb_i h
        refine va_zald hx hb hK hP 4 1 rfl rfl (inb_in hi_12) d_Sk_takeFor_54 ?_
        obtain ⟨x_13, ex_13, h⟩ := letb_i h
        refine lv_topn ex_13 ?_
        have K86 : ∀ (v4_86 : Int32) (v5_86 : Int64) (v7_86 : Int32) (v8_86 : Int64) (H : Heap) (locs : List Loc) (ls : Array Slot), va_P D vwCl (wSk xSk cI cZ gSk) H → va_D A (wSk xSk cI cZ gSk) → va_S A s.heap H locs → lv_has ls 10 [(0, .ref (xSk 0)), (1, .int p1), (2, .int p2), (3, .int p3), (4, .int v4_86), (5, .long v5_86), (7, .int v7_86), (8, .long v8_86)] → f_Sk_takeFor_J86 kc_11 v4_86 v5_86 v7_86 v8_86 = some (r, gSk1) → W p l e rm_Sk_takeFor_r s m args below meth c H locs 0 0 Q (F0 m 86 ls []) := by
          intro v4_86 v5_86 v7_86 v8_86 H locs ls hP hD hS hl h
          unfold f_Sk_takeFor_J86 at h
          obtain ⟨x_14, ex_14, h⟩ := letb_i h
          refine lv_iinc (v := x_14) (lv' := [(7, .int x_14), (0, .ref (xSk 0)), (1, .int p1), (2, .int p2), (3, .int p3), (4, .int v4_86), (5, .long v5_86), (8, .long v8_86)]) hx hb d_Sk_takeFor_86 hl (k := 6) rfl (by rw [ex_14]; rfl) (by decide) rfl (fun ls hl => ?_)
          refine lv_goto (tgt := 11) hx hb d_Sk_takeFor_89 (by decide) ?_
          exact ih v4_86 v5_86 x_14 H locs ls hP hD hS (lv_sub hl [1, 2, 3, 4, 5, 6, 0] rfl) h
        refine lv_if_ne (tgt := 86) hx hb d_Sk_takeFor_55 (by decide) (fun c_15 => ?_) (fun c_15 => ?_)
        · rw [if_neg c_15] at h
          exact K86 v4_11 v5_11 v7_11 x_11 H locs ls hP hD hS (lv_sub hl [1, 2, 3, 4, 5, 6, 7, 0] rfl) h
        · rw [if_pos c_15] at h
          refine lv_aload_n hx hb d_Sk_takeFor_58 rfl (lv_at hl 1 rfl) ?_
          refine lv_iload hx hb d_Sk_takeFor_59 (lv_at hl 7 rfl) ?_
          refine lv_iload_n hx hb d_Sk_takeFor_61 rfl (lv_at hl 2 rfl) ?_
          refine lv_iload_n hx hb d_Sk_takeFor_62 rfl (lv_at hl 3 rfl) ?_
          refine lv_iload_n hx hb d_Sk_takeFor_63 rfl (lv_at hl 4 rfl) ?_
          obtain ⟨r_16, hc_17, h⟩ := xv1_i h
          refine cVi (ws' := (wSk xSk cI cZ gSk)) (As := [.int v7_11, .int p1, .int p2, .int p3]) (rest := []) C0 hP hD hS hl.1 [0, 1, 2, 3, 4] (c_Sk_hasRoom_r l D cI cZ cJ xSk H.size gSk v7_11 p1 p2 p3 r_16 hc_17) k_Sk_hasRoom m_549 rfl rfl rfl rfl rfl (rp_same rfl) ⟨by decide, by decide⟩ ⟨rfl, rfl⟩ rfl (Nat.le_of_ble_eq_true rfl) d_Sk_takeFor_64 ⟨Nat.zero_le _, Nat.zero_le _⟩ (fun H locs hP hD hS => ?_)
          refine lv_if_eq (tgt := 86) hx hb d_Sk_takeFor_67 (by decide) (fun c_18 => ?_) (fun c_18 => ?_)
          · rw [if_pos c_18] at h
            exact K86 v4_11 v5_11 v7_11 x_11 H locs ls hP hD hS (lv_sub hl [1, 2, 3, 4, 5, 6, 7, 0] rfl) h
          · rw [if_neg c_18] at h
            refine lv_lload hx hb d_Sk_takeFor_70 (lv_at hl 0 rfl) ?_
            refine lv_lload hx hb d_Sk_takeFor_72 (lv_at hl 6 rfl) ?_
            refine W.lcmp hx hb d_Sk_takeFor_74 ?_
            refine lv_if_ge (tgt := 86) hx hb d_Sk_takeFor_75 (by decide) (fun c_19 => ?_) (fun c_19 => ?_)
            · rw [if_pos c_19] at h
              exact K86 v4_11 v5_11 v7_11 x_11 H locs ls hP hD hS (lv_sub hl [1, 2, 3, 4, 5, 6, 7, 0] rfl) h
            · rw [if_neg c_19] at h
              refine lv_iload hx hb d_Sk_takeFor_78 (lv_at hl 7 rfl) ?_
              refine lv_istore (lv' := [(4, .int v7_11), (8, .long x_11), (0, .ref (xSk 0)), (1, .int p1), (2, .int p2), (3, .int p3), (5, .long v5_11), (7, .int v7_11)]) hx hb d_Sk_takeFor_80 hl (by decide) rfl (fun ls hl => ?_)
              refine lv_lload hx hb d_Sk_takeFor_82 (lv_at hl 1 rfl) ?_
              refine lv_lstore (lv' := [(5, .long x_11), (4, .int v7_11), (8, .long x_11), (0, .ref (xSk 0)), (1, .int p1), (2, .int p2), (3, .int p3), (7, .int v7_11)]) hx hb d_Sk_takeFor_84 hl (by decide) rfl (fun ls hl => ?_)
              exact K86 v7_11 x_11 v7_11 x_11 H locs ls hP hD hS (lv_sub hl [3, 4, 5, 6, 1, 0, 7, 2] rfl) h
  exact K11 FU (-1) 9223372036854775807 0 H locs ls hP hD hS (lv_sub hl [3, 4, 5, 6, 2, 1, 0] rfl) h
abbrev rm_Sk_release_r : Room := { frames := 1, cells := 0, slots := 0, locals := 21 }
set_option maxRecDepth 100000 in
set_option maxHeartbeats 4000000 in
theorem c_Sk_release_r (l : Launch) (D : va_G) (cI cZ cJ : ClassId) (xSk : Nat → Nat) (sz : Nat) (gSk : St) (p1 : Int32) (r : Int32) (gSk1 : St) (h : f_Sk_release gSk p1 = some (.inl (r, gSk1))) : MI l y_Sk_release b_Sk_release 3 (some .boolean) rm_Sk_release_r D (TYS cI cZ cJ) [.ref (xSk 0), .int p1] (wSk xSk cI cZ gSk) sz r (wSk xSk cI cZ gSk1) := by
  refine mi_start (own := R_Sk) (by decide +kernel) rfl (Nat.le_of_ble_eq_true rfl) (fun p e s m args below meth c A ls C0 hr hlk hP hD hS hl => ?_)
  obtain ⟨Q, hQ⟩ : ∃ Q, Q = QI below D (TYS cI cZ cJ) A (wSk xSk cI cZ gSk1) r args s := ⟨_, rfl⟩
  rw [← hQ]
  obtain ⟨hx, hb, -, hown, hts, hK, hE, -⟩ := id C0
  have hl : lv_has ls 3 [(0, .ref (xSk 0)), (1, .int p1)] := hl
  obtain ⟨H, hH⟩ : ∃ H, H = s.heap := ⟨_, rfl⟩
  have hP : va_P D vwCl (wSk xSk cI cZ gSk) H := by rw [hH]; exact hP
  have hS : va_S A s.heap H [] := by rw [hH]; exact hS
  rw [show W p l e rm_Sk_release_r s m args below meth c s.heap = W p l e rm_Sk_release_r s m args below meth c H by rw [hH]]
  generalize ([] : List Loc) = locs at hS ⊢
  unfold f_Sk_release at h
  refine lv_iload_n hx hb d_Sk_release_0 rfl (lv_at hl 1 rfl) ?_
  refine lv_aload_n hx hb d_Sk_release_1 rfl (lv_at hl 0 rfl) ?_
  refine va_get (ci := 6) (v := .int (gSk 0 4)) (C := R_Sk) (T := F_Sk) (N := 5) hx hb hts i_Sk hown hK hP 0 rfl rfl 4 (by decide) (hts _ m_141) (fun _ h9 => h9) rfl d_Sk_release_2 ?_
  obtain ⟨hc_1, h⟩ | ⟨E9, hc_1, h⟩ := xc0_i h
  rotate_left
  · cases h
  refine cNv (ws' := (wSk xSk cI cZ gSk)) (As := [.int p1, .int (gSk 0 4)]) (rest := []) C0 hP hD hS hl.1 [] (c_Cc_requireIndex_r l D cI cZ cJ  H.size p1 (gSk 0 4) hc_1) k_Cc_requireIndex (List.mem_of_getElem? (i := 10) rfl) rfl rfl rfl (rp_same rfl) ⟨by decide, by decide⟩ ⟨rfl, rfl⟩ rfl (Nat.le_of_ble_eq_true rfl) d_Sk_release_5 ⟨Nat.zero_le _, Nat.zero_le _⟩ (fun H locs hP hD hS => ?_)
  refine lv_aload_n hx hb d_Sk_release_8 rfl (lv_at hl 0 rfl) ?_
  refine va_get (ci := 6) (v := .ref (xSk 4)) (C := R_Sk) (T := F_Sk) (N := 5) hx hb hts i_Sk hown hK hP 0 rfl rfl 3 (by decide) (hts _ m_140) (fun _ h9 => h9) rfl d_Sk_release_9 ?_
  refine lv_iload_n hx hb d_Sk_release_12 rfl (lv_at hl 1 rfl) ?_
  obtain ⟨hi_2, h⟩ := gb_i h
  refine va_zald hx hb hK hP 4 1 rfl rfl (inb_in hi_2) d_Sk_release_13 ?_
  obtain ⟨x_3, ex_3, h⟩ := letb_i h
  refine lv_topn ex_3 ?_
  refine lv_istore_n (lv' := [(2, .int x_3), (0, .ref (xSk 0)), (1, .int p1)]) hx hb d_Sk_release_14 rfl hl (by decide) rfl (fun ls hl => ?_)
  refine lv_aload_n hx hb d_Sk_release_15 rfl (lv_at hl 1 rfl) ?_
  refine va_get (ci := 6) (v := .ref (xSk 4)) (C := R_Sk) (T := F_Sk) (N := 5) hx hb hts i_Sk hown hK hP 0 rfl rfl 3 (by decide) (hts _ m_140) (fun _ h9 => h9) rfl d_Sk_release_16 ?_
  refine lv_iload_n hx hb d_Sk_release_19 rfl (lv_at hl 2 rfl) ?_
  refine lv_iconst (v := 0) hx hb d_Sk_release_20 (by decide) ?_
  obtain ⟨hi_4, h⟩ := gb_i h
  refine va_zast hx hb hK hP hD hS 4 1 rfl rfl (inb_in hi_4) d_Sk_release_21 (fun H locs hP hD hS => ?_)
  obtain ⟨gSk_5, egSk_5, h⟩ := letb_i h
  have hP : va_P D vwCl (wSk xSk cI cZ gSk_5) H := by rw [egSk_5, u_Sk_4]; exact hP
  have hD : va_D A (wSk xSk cI cZ gSk_5) := by rw [egSk_5, u_Sk_4]; exact hD
  refine lv_iload_n hx hb d_Sk_release_22 rfl (lv_at hl 0 rfl) ?_
  obtain ⟨hz_6, h⟩ := gb_i h
  cases h
  rw [hQ]
  exact mi_ret C0 hr (isb_n hz_6) hlk hP hD hS d_Sk_release_23
abbrev rm_Sk_release_t : Room := { frames := 7, cells := 1, slots := 6, locals := 103 }
set_option maxRecDepth 100000 in
set_option maxHeartbeats 4000000 in
theorem c_Sk_release_t (l : Launch) (hltr : l.stackTraces = false) (D : va_G) (cI cZ cJ : ClassId) (xSk : Nat → Nat) (sz : Nat) (gSk : St) (p1 : Int32) (E : String) (h : f_Sk_release gSk p1 = some (.inr E)) : MT l y_Sk_release b_Sk_release 3 (some .boolean) rm_Sk_release_t D (TYS cI cZ cJ) [.ref (xSk 0), .int p1] (wSk xSk cI cZ gSk) sz E := by
  refine mt_start (own := R_Sk) (by decide +kernel) rfl (Nat.le_of_ble_eq_true rfl) (fun p e s m args below meth c A ls C0 hAe hno hlk hP hD hS hl => ?_)
  obtain ⟨Q, hQ⟩ : ∃ Q, Q = QT below D (TYS cI cZ cJ) (wSk xSk cI cZ gSk) E args s := ⟨_, rfl⟩
  rw [← hQ]
  obtain ⟨hx, hb, -, hown, hts, hK, hE, -⟩ := id C0
  have hl : lv_has ls 3 [(0, .ref (xSk 0)), (1, .int p1)] := hl
  obtain ⟨H, hH⟩ : ∃ H, H = s.heap := ⟨_, rfl⟩
  have hP : va_P D vwCl (wSk xSk cI cZ gSk) H := by rw [hH]; exact hP
  have hS : va_S A s.heap H [] := by rw [hH]; exact hS
  rw [show W p l e rm_Sk_release_t s m args below meth c s.heap = W p l e rm_Sk_release_t s m args below meth c H by rw [hH]]
  generalize ([] : List Loc) = locs at hS ⊢
  unfold f_Sk_release at h
  refine lv_iload_n hx hb d_Sk_release_0 rfl (lv_at hl 1 rfl) ?_
  refine lv_aload_n hx hb d_Sk_release_1 rfl (lv_at hl 0 rfl) ?_
  refine va_get (ci := 6) (v := .int (gSk 0 4)) (C := R_Sk) (T := F_Sk) (N := 5) hx hb hts i_Sk hown hK hP 0 rfl rfl 4 (by decide) (hts _ m_141) (fun _ h9 => h9) rfl d_Sk_release_2 ?_
  obtain ⟨hc_1, h⟩ | ⟨E9, hc_1, h⟩ := xc0_i h
  rotate_left
  · cases h
    rw [hQ]
    exact x_out C0 hAe hno hlk hP hD hS [] rfl rfl rfl (rN (As := [.int p1, .int (gSk 0 4)]) (rest := []) C0 hP hD hS hl.1 [] (c_Cc_requireIndex_t l hltr D cI cZ cJ  H.size p1 (gSk 0 4) E hc_1) k_Cc_requireIndex (List.mem_of_getElem? (i := 10) rfl) rfl rfl ⟨by decide, by decide⟩ ⟨rfl, rfl⟩ rfl (Nat.le_of_ble_eq_true rfl) d_Sk_release_5 ⟨by decide, by decide⟩) ⟨rfl, rfl⟩
  refine cNv (ws' := (wSk xSk cI cZ gSk)) (As := [.int p1, .int (gSk 0 4)]) (rest := []) C0 hP hD hS hl.1 [] (c_Cc_requireIndex_r l D cI cZ cJ  H.size p1 (gSk 0 4) hc_1) k_Cc_requireIndex (List.mem_of_getElem? (i := 10) rfl) rfl rfl rfl (rp_same rfl) ⟨by decide, by decide⟩ ⟨rfl, rfl⟩ rfl (Nat.le_of_ble_eq_true rfl) d_Sk_release_5 ⟨Nat.zero_le _, Nat.zero_le _⟩ (fun H locs hP hD hS => ?_)
  refine lv_aload_n hx hb d_Sk_release_8 rfl (lv_at hl 0 rfl) ?_
  refine va_get (ci := 6) (v := .ref (xSk 4)) (C := R_Sk) (T := F_Sk) (N := 5) hx hb hts i_Sk hown hK hP 0 rfl rfl 3 (by decide) (hts _ m_140) (fun _ h9 => h9) rfl d_Sk_release_9 ?_
  refine lv_iload_n hx hb d_Sk_release_12 rfl (lv_at hl 1 rfl) ?_
  obtain ⟨hi_2, h⟩ := gb_i h
  refine va_zald hx hb hK hP 4 1 rfl rfl (inb_in hi_2) d_Sk_release_13 ?_
  obtain ⟨x_3, ex_3, h⟩ := letb_i h
  refine lv_topn ex_3 ?_
  refine lv_istore_n (lv' := [(2, .int x_3), (0, .ref (xSk 0)), (1, .int p1)]) hx hb d_Sk_release_14 rfl hl (by decide) rfl (fun ls hl => ?_)
  refine lv_aload_n hx hb d_Sk_release_15 rfl (lv_at hl 1 rfl) ?_
  refine va_get (ci := 6) (v := .ref (xSk 4)) (C := R_Sk) (T := F_Sk) (N := 5) hx hb hts i_Sk hown hK hP 0 rfl rfl 3 (by decide) (hts _ m_140) (fun _ h9 => h9) rfl d_Sk_release_16 ?_
  refine lv_iload_n hx hb d_Sk_release_19 rfl (lv_at hl 2 rfl) ?_
  refine lv_iconst (v := 0) hx hb d_Sk_release_20 (by decide) ?_
  obtain ⟨hi_4, h⟩ := gb_i h
  refine va_zast hx hb hK hP hD hS 4 1 rfl rfl (inb_in hi_4) d_Sk_release_21 (fun H locs hP hD hS => ?_)
  obtain ⟨gSk_5, egSk_5, h⟩ := letb_i h
  have hP : va_P D vwCl (wSk xSk cI cZ gSk_5) H := by rw [egSk_5, u_Sk_4]; exact hP
  have hD : va_D A (wSk xSk cI cZ gSk_5) := by rw [egSk_5, u_Sk_4]; exact hD
  refine lv_iload_n hx hb d_Sk_release_22 rfl (lv_at hl 0 rfl) ?_
  obtain ⟨hz_6, h⟩ := gb_i h
  cases h
abbrev rm_Sk_takenCount_r : Room := { frames := 0, cells := 0, slots := 0, locals := 0 }
set_option maxRecDepth 100000 in
set_option maxHeartbeats 4000000 in
theorem c_Sk_takenCount_r (l : Launch) (D : va_G) (cI cZ cJ : ClassId) (xSk : Nat → Nat) (sz : Nat) (gSk : St)  (r : Int32) (h : f_Sk_takenCount gSk = some r) : MI l y_Sk_takenCount b_Sk_takenCount 3 (some .int) rm_Sk_takenCount_r D (TYS cI cZ cJ) [.ref (xSk 0)] (wSk xSk cI cZ gSk) sz r (wSk xSk cI cZ gSk) := by
  refine mi_start (own := R_Sk) (by decide +kernel) rfl (Nat.le_of_ble_eq_true rfl) (fun p e s m args below meth c A ls C0 hr hlk hP hD hS hl => ?_)
  obtain ⟨Q, hQ⟩ : ∃ Q, Q = QI below D (TYS cI cZ cJ) A (wSk xSk cI cZ gSk) r args s := ⟨_, rfl⟩
  rw [← hQ]
  obtain ⟨hx, hb, -, hown, hts, hK, hE, -⟩ := id C0
  have hl : lv_has ls 3 [(0, .ref (xSk 0))] := hl
  obtain ⟨H, hH⟩ : ∃ H, H = s.heap := ⟨_, rfl⟩
  have hP : va_P D vwCl (wSk xSk cI cZ gSk) H := by rw [hH]; exact hP
  have hS : va_S A s.heap H [] := by rw [hH]; exact hS
  rw [show W p l e rm_Sk_takenCount_r s m args below meth c s.heap = W p l e rm_Sk_takenCount_r s m args below meth c H by rw [hH]]
  generalize ([] : List Loc) = locs at hS ⊢
  unfold f_Sk_takenCount at h
  refine lv_iconst (v := 0) hx hb d_Sk_takenCount_0 (by decide) ?_
  refine lv_istore_n (lv' := [(1, .int 0), (0, .ref (xSk 0))]) hx hb d_Sk_takenCount_1 rfl hl (by decide) rfl (fun ls hl => ?_)
  refine lv_iconst (v := 0) hx hb d_Sk_takenCount_2 (by decide) ?_
  refine lv_istore_n (lv' := [(2, .int 0), (1, .int 0), (0, .ref (xSk 0))]) hx hb d_Sk_takenCount_3 rfl hl (by decide) rfl (fun ls hl => ?_)
  have K30 : ∀ (v1_30 : Int32) (v2_30 : Int32) (H : Heap) (locs : List Loc) (ls : Array Slot), va_P D vwCl (wSk xSk cI cZ gSk) H → va_D A (wSk xSk cI cZ gSk) → va_S A s.heap H locs → lv_has ls 3 [(0, .ref (xSk 0)), (1, .int v1_30), (2, .int v2_30)] → f_Sk_takenCount_X30 v1_30 v2_30 = some r → W p l e rm_Sk_takenCount_r s m args below meth c H locs 0 0 Q (F0 m 30 ls []) := by
    intro v1_30 v2_30 H locs ls hP hD hS hl h
    unfold f_Sk_takenCount_X30 at h
    refine lv_iload_n hx hb d_Sk_takenCount_30 rfl (lv_at hl 1 rfl) ?_
    cases h
    rw [hQ]
    exact mi_ret C0 hr rfl hlk hP hD hS d_Sk_takenCount_31
  have K4 : ∀ (n : Nat) (v1_4 : Int32) (v2_4 : Int32) (H : Heap) (locs : List Loc) (ls : Array Slot), va_P D vwCl (wSk xSk cI cZ gSk) H → va_D A (wSk xSk cI cZ gSk) → va_S A s.heap H locs → lv_has ls 3 [(0, .ref (xSk 0)), (1, .int v1_4), (2, .int v2_4)] → it2 (f_Sk_takenCount_L4 gSk) n v1_4 v2_4 = some r → W p l e rm_Sk_takenCount_r s m args below meth c H locs 0 0 Q (F0 m 4 ls []) := by
    intro n
    induction n with
    | zero => intro v1_4 v2_4 H locs ls hP hD hS hl h; exact (it2_0 h).elim
    | succ n ih =>
      intro v1_4 v2_4 H locs ls hP hD hS hl h
      rw [it2_s, f_Sk_takenCount_L4] at h
      generalize it2 (f_Sk_takenCount_L4 gSk) n = kc_4 at h ih
      refine lv_iload_n hx hb d_Sk_takenCount_4 rfl (lv_at hl 2 rfl) ?_
      refine lv_aload_n hx hb d_Sk_takenCount_5 rfl (lv_at hl 0 rfl) ?_
      refine va_get (ci := 6) (v := .int (gSk 0 4)) (C := R_Sk) (T := F_Sk) (N := 5) hx hb hts i_Sk hown hK hP 0 rfl rfl 4 (by decide) (hts _ m_141) (fun _ h9 => h9) rfl d_Sk_takenCount_6 ?_
      refine lv_icmp_ge (tgt := 30) hx hb d_Sk_takenCount_9 (by decide) (fun c_1 => ?_) (fun c_1 => ?_)
      · rw [if_pos c_1] at h
        exact K30 v1_4 v2_4 H locs ls hP hD hS (lv_sub hl [0, 1, 2] rfl) h
      · rw [if_neg c_1] at h
        refine lv_aload_n hx hb d_Sk_takenCount_12 rfl (lv_at hl 0 rfl) ?_
        refine va_get (ci := 6) (v := .ref (xSk 4)) (C := R_Sk) (T := F_Sk) (N := 5) hx hb hts i_Sk hown hK hP 0 rfl rfl 3 (by decide) (hts _ m_140) (fun _ h9 => h9) rfl d_Sk_takenCount_13 ?_
        refine lv_iload_n hx hb d_Sk_takenCount_16 rfl (lv_at hl 2 rfl) ?_
        obtain ⟨hi_2, h⟩ := gb_i h
        refine va_zald hx hb hK hP 4 1 rfl rfl (inb_in hi_2) d_Sk_takenCount_17 ?_
        obtain ⟨x_3, ex_3, h⟩ := letb_i h
        refine lv_topn ex_3 ?_
        have K24 : ∀ (v1_24 : Int32) (v2_24 : Int32) (H : Heap) (locs : List Loc) (ls : Array Slot), va_P D vwCl (wSk xSk cI cZ gSk) H → va_D A (wSk xSk cI cZ gSk) → va_S A s.heap H locs → lv_has ls 3 [(0, .ref (xSk 0)), (1, .int v1_24), (2, .int v2_24)] → f_Sk_takenCount_J24 kc_4 v1_24 v2_24 = some r → W p l e rm_Sk_takenCount_r s m args below meth c H locs 0 0 Q (F0 m 24 ls []) := by
          intro v1_24 v2_24 H locs ls hP hD hS hl h
          unfold f_Sk_takenCount_J24 at h
          obtain ⟨x_4, ex_4, h⟩ := letb_i h
          refine lv_iinc (v := x_4) (lv' := [(2, .int x_4), (0, .ref (xSk 0)), (1, .int v1_24)]) hx hb d_Sk_takenCount_24 hl (k := 2) rfl (by rw [ex_4]; rfl) (by decide) rfl (fun ls hl => ?_)
          refine lv_goto (tgt := 4) hx hb d_Sk_takenCount_27 (by decide) ?_
          exact ih v1_24 x_4 H locs ls hP hD hS (lv_sub hl [1, 2, 0] rfl) h
        refine lv_if_eq (tgt := 24) hx hb d_Sk_takenCount_18 (by decide) (fun c_5 => ?_) (fun c_5 => ?_)
        · rw [if_pos c_5] at h
          exact K24 v1_4 v2_4 H locs ls hP hD hS (lv_sub hl [0, 1, 2] rfl) h
        · rw [if_neg c_5] at h
          obtain ⟨x_6, ex_6, h⟩ := letb_i h
          refine lv_iinc (v := x_6) (lv' := [(1, .int x_6), (0, .ref (xSk 0)), (2, .int v2_4)]) hx hb d_Sk_takenCount_21 hl (k := 1) rfl (by rw [ex_6]; rfl) (by decide) rfl (fun ls hl => ?_)
          exact K24 x_6 v2_4 H locs ls hP hD hS (lv_sub hl [1, 0, 2] rfl) h
  exact K4 FU 0 0 H locs ls hP hD hS (lv_sub hl [2, 1, 0] rfl) h
