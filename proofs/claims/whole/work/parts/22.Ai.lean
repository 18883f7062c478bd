abbrev rm_Ai_setLag_r : Room := { frames := 1, cells := 0, slots := 0, locals := 22 }
set_option maxRecDepth 100000 in
set_option maxHeartbeats 4000000 in
theorem c_Ai_setLag_r (l : Launch) (D : va_G) (cI cZ cJ : ClassId) (xAi : Nat → Nat) (sz : Nat) (gAi : St) (p1 : Int32) (r : Int32) (gAi1 : St) (h : f_Ai_setLag gAi p1 = some (.inl (r, gAi1))) : MI l y_Ai_setLag b_Ai_setLag 3 (some .int) rm_Ai_setLag_r D (TYS cI cZ cJ) [.ref (xAi 0), .int p1] (wAi xAi cI cZ gAi) sz r (wAi xAi cI cZ gAi1) := by
  refine mi_start (own := R_Ai) (by decide +kernel) rfl (Nat.le_of_ble_eq_true rfl) (fun p e s m args below meth c A ls C0 hr hlk hP hD hS hl => ?_)
  obtain ⟨Q, hQ⟩ : ∃ Q, Q = QI below D (TYS cI cZ cJ) A (wAi xAi cI cZ gAi1) r args s := ⟨_, rfl⟩
  rw [← hQ]
  obtain ⟨hx, hb, -, hown, hts, hK, hE, -⟩ := id C0
  have hl : lv_has ls 3 [(0, .ref (xAi 0)), (1, .int p1)] := hl
  obtain ⟨H, hH⟩ : ∃ H, H = s.heap := ⟨_, rfl⟩
  have hP : va_P D vwCl (wAi xAi cI cZ gAi) H := by rw [hH]; exact hP
  have hS : va_S A s.heap H [] := by rw [hH]; exact hS
  rw [show W p l e rm_Ai_setLag_r s m args below meth c s.heap = W p l e rm_Ai_setLag_r s m args below meth c H by rw [hH]]
  generalize ([] : List Loc) = locs at hS ⊢
  unfold f_Ai_setLag at h
  refine lv_iload_n hx hb d_Ai_setLag_0 rfl (lv_at hl 1 rfl) ?_
  refine lv_iconst (v := 1) hx hb d_Ai_setLag_1 (by decide) ?_
  refine lv_bipush (v := 100) hx hb d_Ai_setLag_2 (by decide) ?_
  obtain ⟨hc_1, h⟩ | ⟨E9, hc_1, h⟩ := xc0_i h
  rotate_left
  · cases h
  refine cNv (ws' := (wAi xAi cI cZ gAi)) (As := [.int p1, .int 1, .int 100]) (rest := []) C0 hP hD hS hl.1 [] (c_Cc_requireRange_r l D cI cZ cJ  H.size p1 1 100 hc_1) k_Cc_requireRange (List.mem_of_getElem? (i := 11) rfl) rfl rfl rfl (rp_same rfl) ⟨by decide, by decide⟩ ⟨rfl, rfl⟩ rfl (Nat.le_of_ble_eq_true rfl) d_Ai_setLag_4 ⟨Nat.zero_le _, Nat.zero_le _⟩ (fun H locs hP hD hS => ?_)
  refine lv_aload_n hx hb d_Ai_setLag_7 rfl (lv_at hl 0 rfl) ?_
  refine va_get (ci := 0) (v := .int (gAi 0 2)) (C := R_Ai) (T := F_Ai) (N := 3) hx hb hts i_Ai hown hK hP 0 rfl rfl 2 (by decide) (hts _ m_164) (fun _ h9 => h9) rfl d_Ai_setLag_8 ?_
  obtain ⟨x_2, ex_2, h⟩ := letb_i h
  refine lv_topn ex_2 ?_
  refine lv_istore_n (lv' := [(2, .int x_2), (0, .ref (xAi 0)), (1, .int p1)]) hx hb d_Ai_setLag_11 rfl hl (by decide) rfl (fun ls hl => ?_)
  refine lv_aload_n hx hb d_Ai_setLag_12 rfl (lv_at hl 1 rfl) ?_
  refine lv_iload_n hx hb d_Ai_setLag_13 rfl (lv_at hl 2 rfl) ?_
  refine va_put (ci := 0) (v := .int p1) (ty := .int) (C := R_Ai) (T := F_Ai) (N := 3) hx hb hts i_Ai t_Ai o_Ai n_Ai hown hK hP hD hS 0 rfl rfl 2 (by decide) (hts _ m_164) (fun _ h9 => h9) rfl (by decide +kernel) rfl rfl (Nat.le_of_ble_eq_true rfl) d_Ai_setLag_14 (fun H locs hP hD hS => ?_)
  obtain ⟨gAi_3, egAi_3, h⟩ := letb_i h
  have hP : va_P D vwCl (wAi xAi cI cZ gAi_3) H := by rw [egAi_3, u_Ai_0_2]; exact hP
  have hD : va_D A (wAi xAi cI cZ gAi_3) := by rw [egAi_3, u_Ai_0_2]; exact hD
  refine lv_iload_n hx hb d_Ai_setLag_17 rfl (lv_at hl 0 rfl) ?_
  cases h
  rw [hQ]
  exact mi_ret C0 hr rfl hlk hP hD hS d_Ai_setLag_18
abbrev rm_Ai_setLag_t : Room := { frames := 7, cells := 1, slots := 6, locals := 104 }
set_option maxRecDepth 100000 in
set_option maxHeartbeats 4000000 in
theorem c_Ai_setLag_t (l : Launch) (hltr : l.stackTraces = false) (D : va_G) (cI cZ cJ : ClassId) (xAi : Nat → Nat) (sz : Nat) (gAi : St) (p1 : Int32) (E : String) (h : f_Ai_setLag gAi p1 = some (.inr E)) : MT l y_Ai_setLag b_Ai_setLag 3 (some .int) rm_Ai_setLag_t D (TYS cI cZ cJ) [.ref (xAi 0), .int p1] (wAi xAi cI cZ gAi) sz E := by
  refine mt_start (own := R_Ai) (by decide +kernel) rfl (Nat.le_of_ble_eq_true rfl) (fun p e s m args below meth c A ls C0 hAe hno hlk hP hD hS hl => ?_)
  obtain ⟨Q, hQ⟩ : ∃ Q, Q = QT below D (TYS cI cZ cJ) (wAi xAi cI cZ gAi) E args s := ⟨_, rfl⟩
  rw [← hQ]
  obtain ⟨hx, hb, -, hown, hts, hK, hE, -⟩ := id C0
  have hl : lv_has ls 3 [(0, .ref (xAi 0)), (1, .int p1)] := hl
  obtain ⟨H, hH⟩ : ∃ H, H = s.heap := ⟨_, rfl⟩
  have hP : va_P D vwCl (wAi xAi cI cZ gAi) H := by rw [hH]; exact hP
  have hS : va_S A s.heap H [] := by rw [hH]; exact hS
  rw [show W p l e rm_Ai_setLag_t s m args below meth c s.heap = W p l e rm_Ai_setLag_t s m args below meth c H by rw [hH]]
  generalize ([] : List Loc) = locs at hS ⊢
  unfold f_Ai_setLag at h
  refine lv_iload_n hx hb d_Ai_setLag_0 rfl (lv_at hl 1 rfl) ?_
  refine lv_iconst (v := 1) hx hb d_Ai_setLag_1 (by decide) ?_
  refine lv_bipush (v := 100) hx hb d_Ai_setLag_2 (by decide) ?_
  obtain ⟨hc_1, h⟩ | ⟨E9, hc_1, h⟩ := xc0_i h
  rotate_left
  · cases h
    rw [hQ]
    exact x_out C0 hAe hno hlk hP hD hS [] rfl rfl rfl (rN (As := [.int p1, .int 1, .int 100]) (rest := []) C0 hP hD hS hl.1 [] (c_Cc_requireRange_t l hltr D cI cZ cJ  H.size p1 1 100 E hc_1) k_Cc_requireRange (List.mem_of_getElem? (i := 11) rfl) rfl rfl ⟨by decide, by decide⟩ ⟨rfl, rfl⟩ rfl (Nat.le_of_ble_eq_true rfl) d_Ai_setLag_4 ⟨by decide, by decide⟩) ⟨rfl, rfl⟩
  refine cNv (ws' := (wAi xAi cI cZ gAi)) (As := [.int p1, .int 1, .int 100]) (rest := []) C0 hP hD hS hl.1 [] (c_Cc_requireRange_r l D cI cZ cJ  H.size p1 1 100 hc_1) k_Cc_requireRange (List.mem_of_getElem? (i := 11) rfl) rfl rfl rfl (rp_same rfl) ⟨by decide, by decide⟩ ⟨rfl, rfl⟩ rfl (Nat.le_of_ble_eq_true rfl) d_Ai_setLag_4 ⟨Nat.zero_le _, Nat.zero_le _⟩ (fun H locs hP hD hS => ?_)
  refine lv_aload_n hx hb d_Ai_setLag_7 rfl (lv_at hl 0 rfl) ?_
  refine va_get (ci := 0) (v := .int (gAi 0 2)) (C := R_Ai) (T := F_Ai) (N := 3) hx hb hts i_Ai hown hK hP 0 rfl rfl 2 (by decide) (hts _ m_164) (fun _ h9 => h9) rfl d_Ai_setLag_8 ?_
  obtain ⟨x_2, ex_2, h⟩ := letb_i h
  refine lv_topn ex_2 ?_
  refine lv_istore_n (lv' := [(2, .int x_2), (0, .ref (xAi 0)), (1, .int p1)]) hx hb d_Ai_setLag_11 rfl hl (by decide) rfl (fun ls hl => ?_)
  refine lv_aload_n hx hb d_Ai_setLag_12 rfl (lv_at hl 1 rfl) ?_
  refine lv_iload_n hx hb d_Ai_setLag_13 rfl (lv_at hl 2 rfl) ?_
  refine va_put (ci := 0) (v := .int p1) (ty := .int) (C := R_Ai) (T := F_Ai) (N := 3) hx hb hts i_Ai t_Ai o_Ai n_Ai hown hK hP hD hS 0 rfl rfl 2 (by decide) (hts _ m_164) (fun _ h9 => h9) rfl (by decide +kernel) rfl rfl (Nat.le_of_ble_eq_true rfl) d_Ai_setLag_14 (fun H locs hP hD hS => ?_)
  obtain ⟨gAi_3, egAi_3, h⟩ := letb_i h
  have hP : va_P D vwCl (wAi xAi cI cZ gAi_3) H := by rw [egAi_3, u_Ai_0_2]; exact hP
  have hD : va_D A (wAi xAi cI cZ gAi_3) := by rw [egAi_3, u_Ai_0_2]; exact hD
  refine lv_iload_n hx hb d_Ai_setLag_17 rfl (lv_at hl 0 rfl) ?_
  cases h
abbrev rm_Ai_nextHour_r : Room := { frames := 1, cells := 0, slots := 0, locals := 22 }
set_option maxRecDepth 100000 in
set_option maxHeartbeats 4000000 in
theorem c_Ai_nextHour_r (l : Launch) (D : va_G) (cI cZ cJ : ClassId) (xAi : Nat → Nat) (sz : Nat) (gAi : St) (p1 : Int32) (r : Int32) (gAi1 : St) (h : f_Ai_nextHour gAi p1 = some (.inl (r, gAi1))) : MI l y_Ai_nextHour b_Ai_nextHour 4 (some .int) rm_Ai_nextHour_r D (TYS cI cZ cJ) [.ref (xAi 0), .int p1] (wAi xAi cI cZ gAi) sz r (wAi xAi cI cZ gAi1) := by
  refine mi_start (own := R_Ai) (by decide +kernel) rfl (Nat.le_of_ble_eq_true rfl) (fun p e s m args below meth c A ls C0 hr hlk hP hD hS hl => ?_)
  obtain ⟨Q, hQ⟩ : ∃ Q, Q = QI below D (TYS cI cZ cJ) A (wAi xAi cI cZ gAi1) r args s := ⟨_, rfl⟩
  rw [← hQ]
  obtain ⟨hx, hb, -, hown, hts, hK, hE, -⟩ := id C0
  have hl : lv_has ls 4 [(0, .ref (xAi 0)), (1, .int p1)] := hl
  obtain ⟨H, hH⟩ : ∃ H, H = s.heap := ⟨_, rfl⟩
  have hP : va_P D vwCl (wAi xAi cI cZ gAi) H := by rw [hH]; exact hP
  have hS : va_S A s.heap H [] := by rw [hH]; exact hS
  rw [show W p l e rm_Ai_nextHour_r s m args below meth c s.heap = W p l e rm_Ai_nextHour_r s m args below meth c H by rw [hH]]
  generalize ([] : List Loc) = locs at hS ⊢
  unfold f_Ai_nextHour at h
  refine lv_aload_n hx hb d_Ai_nextHour_0 rfl (lv_at hl 0 rfl) ?_
  refine va_get (ci := 0) (v := .int (gAi 0 1)) (C := R_Ai) (T := F_Ai) (N := 3) hx hb hts i_Ai hown hK hP 0 rfl rfl 1 (by decide) (hts _ m_162) (fun _ h9 => h9) rfl d_Ai_nextHour_1 ?_
  refine lv_sipush (v := 200) hx hb d_Ai_nextHour_4 (by decide) ?_
  obtain ⟨hc_1, h⟩ | ⟨E9, hc_1, h⟩ := xc0_i h
  rotate_left
  · cases h
  refine cNv (ws' := (wAi xAi cI cZ gAi)) (As := [.int (gAi 0 1), .int 200]) (rest := []) C0 hP hD hS hl.1 [] (c_Cc_requireRoom_r l D cI cZ cJ  H.size (gAi 0 1) 200 hc_1) k_Cc_requireRoom (List.mem_of_getElem? (i := 12) rfl) rfl rfl rfl (rp_same rfl) ⟨by decide, by decide⟩ ⟨rfl, rfl⟩ rfl (Nat.le_of_ble_eq_true rfl) d_Ai_nextHour_7 ⟨Nat.zero_le _, Nat.zero_le _⟩ (fun H locs hP hD hS => ?_)
  refine lv_iload_n hx hb d_Ai_nextHour_10 rfl (lv_at hl 1 rfl) ?_
  refine lv_bipush (v := (-60)) hx hb d_Ai_nextHour_11 (by decide) ?_
  refine lv_bipush (v := 60) hx hb d_Ai_nextHour_13 (by decide) ?_
  obtain ⟨hc_2, h⟩ | ⟨E9, hc_2, h⟩ := xc0_i h
  rotate_left
  · cases h
  refine cNv (ws' := (wAi xAi cI cZ gAi)) (As := [.int p1, .int (-60), .int 60]) (rest := []) C0 hP hD hS hl.1 [] (c_Cc_requireRange_r l D cI cZ cJ  H.size p1 (-60) 60 hc_2) k_Cc_requireRange (List.mem_of_getElem? (i := 11) rfl) rfl rfl rfl (rp_same rfl) ⟨by decide, by decide⟩ ⟨rfl, rfl⟩ rfl (Nat.le_of_ble_eq_true rfl) d_Ai_nextHour_15 ⟨Nat.zero_le _, Nat.zero_le _⟩ (fun H locs hP hD hS => ?_)
  refine lv_aload_n hx hb d_Ai_nextHour_18 rfl (lv_at hl 0 rfl) ?_
  refine va_get (ci := 0) (v := .int (gAi 0 1)) (C := R_Ai) (T := F_Ai) (N := 3) hx hb hts i_Ai hown hK hP 0 rfl rfl 1 (by decide) (hts _ m_162) (fun _ h9 => h9) rfl d_Ai_nextHour_19 ?_
  have K42 : ∀ (s0_42 : Int32) (H : Heap) (locs : List Loc) (ls : Array Slot), va_P D vwCl (wAi xAi cI cZ gAi) H → va_D A (wAi xAi cI cZ gAi) → va_S A s.heap H locs → lv_has ls 4 [(0, .ref (xAi 0)), (1, .int p1)] → f_Ai_nextHour_J42 gAi p1 s0_42 = some (.inl (r, gAi1)) → W p l e rm_Ai_nextHour_r s m args below meth c H locs 0 0 Q (F0 m 42 ls [.int s0_42]) := by
    intro s0_42 H locs ls hP hD hS hl h
    unfold f_Ai_nextHour_J42 at h
    refine lv_istore_n (lv' := [(2, .int s0_42), (0, .ref (xAi 0)), (1, .int p1)]) hx hb d_Ai_nextHour_42 rfl hl (by decide) rfl (fun ls hl => ?_)
    refine lv_iload_n hx hb d_Ai_nextHour_43 rfl (lv_at hl 2 rfl) ?_
    refine lv_sipush (v := 1000) hx hb d_Ai_nextHour_44 (by decide) ?_
    refine lv_imul hx hb d_Ai_nextHour_47 ?_
    refine lv_iload_n hx hb d_Ai_nextHour_48 rfl (lv_at hl 0 rfl) ?_
    refine lv_isub hx hb d_Ai_nextHour_49 ?_
    refine lv_aload_n hx hb d_Ai_nextHour_50 rfl (lv_at hl 1 rfl) ?_
    refine va_get (ci := 0) (v := .int (gAi 0 2)) (C := R_Ai) (T := F_Ai) (N := 3) hx hb hts i_Ai hown hK hP 0 rfl rfl 2 (by decide) (hts _ m_164) (fun _ h9 => h9) rfl d_Ai_nextHour_51 ?_
    refine lv_iconst (v := 1) hx hb d_Ai_nextHour_54 (by decide) ?_
    obtain ⟨r_3, hc_4, h⟩ := xv1_i h
    refine cSi (ws' := (wAi xAi cI cZ gAi)) (As := [.int (gAi 0 2), .int 1]) (rest := [.int ((p1 * 1000) - s0_42)]) C0 hP hD hS hl.1 [] (c_Ma_max_r l D cI cZ cJ  H.size (gAi 0 2) 1 r_3 hc_4) k_Ma_max m_607 rfl rfl rfl (rp_same rfl) ⟨by decide, by decide⟩ ⟨rfl, rfl⟩ rfl (Nat.le_of_ble_eq_true rfl) d_Ai_nextHour_55 ⟨Nat.zero_le _, Nat.zero_le _⟩ (fun H locs hP hD hS => ?_)
    obtain ⟨r_5, hc_6, h⟩ := xv1_i h
    refine cSi (ws' := (wAi xAi cI cZ gAi)) (As := [.int ((p1 * 1000) - s0_42), .int r_3]) (rest := []) C0 hP hD hS hl.1 [] (c_Ma_floorDiv_r l D cI cZ cJ  H.size ((p1 * 1000) - s0_42) r_3 r_5 hc_6) k_Ma_floorDiv m_610 rfl rfl rfl (rp_same rfl) ⟨by decide, by decide⟩ ⟨rfl, rfl⟩ rfl (Nat.le_of_ble_eq_true rfl) d_Ai_nextHour_58 ⟨Nat.zero_le _, Nat.zero_le _⟩ (fun H locs hP hD hS => ?_)
    refine lv_istore_n (lv' := [(3, .int r_5), (2, .int s0_42), (0, .ref (xAi 0)), (1, .int p1)]) hx hb d_Ai_nextHour_61 rfl hl (by decide) rfl (fun ls hl => ?_)
    refine lv_aload_n hx hb d_Ai_nextHour_62 rfl (lv_at hl 2 rfl) ?_
    refine va_get (ci := 0) (v := .ref (xAi 1)) (C := R_Ai) (T := F_Ai) (N := 3) hx hb hts i_Ai hown hK hP 0 rfl rfl 0 (by decide) (hts _ m_161) (fun _ h9 => h9) rfl d_Ai_nextHour_63 ?_
    refine lv_aload_n hx hb d_Ai_nextHour_66 rfl (lv_at hl 2 rfl) ?_
    refine va_get (ci := 0) (v := .int (gAi 0 1)) (C := R_Ai) (T := F_Ai) (N := 3) hx hb hts i_Ai hown hK hP 0 rfl rfl 1 (by decide) (hts _ m_162) (fun _ h9 => h9) rfl d_Ai_nextHour_67 ?_
    refine lv_iload_n hx hb d_Ai_nextHour_70 rfl (lv_at hl 1 rfl) ?_
    refine lv_iload_n hx hb d_Ai_nextHour_71 rfl (lv_at hl 0 rfl) ?_
    refine lv_iadd hx hb d_Ai_nextHour_72 ?_
    obtain ⟨hi_7, h⟩ := gb_i h
    refine va_iast hx hb hK hP hD hS 1 0 rfl rfl (inb_in hi_7) d_Ai_nextHour_73 (fun H locs hP hD hS => ?_)
    obtain ⟨gAi_8, egAi_8, h⟩ := letb_i h
    have hP : va_P D vwCl (wAi xAi cI cZ gAi_8) H := by rw [egAi_8, u_Ai_1]; exact hP
    have hD : va_D A (wAi xAi cI cZ gAi_8) := by rw [egAi_8, u_Ai_1]; exact hD
    refine lv_aload_n hx hb d_Ai_nextHour_74 rfl (lv_at hl 2 rfl) ?_
    refine lv_dup hx hb d_Ai_nextHour_75 rfl ?_
    refine va_get (ci := 0) (v := .int (gAi_8 0 1)) (C := R_Ai) (T := F_Ai) (N := 3) hx hb hts i_Ai hown hK hP 0 rfl rfl 1 (by decide) (hts _ m_162) (fun _ h9 => h9) rfl d_Ai_nextHour_76 ?_
    refine lv_iconst (v := 1) hx hb d_Ai_nextHour_79 (by decide) ?_
    refine lv_iadd hx hb d_Ai_nextHour_80 ?_
    refine va_put (ci := 0) (v := .int ((gAi_8 0 1) + 1)) (ty := .int) (C := R_Ai) (T := F_Ai) (N := 3) hx hb hts i_Ai t_Ai o_Ai n_Ai hown hK hP hD hS 0 rfl rfl 1 (by decide) (hts _ m_162) (fun _ h9 => h9) rfl (by decide +kernel) rfl rfl (Nat.le_of_ble_eq_true rfl) d_Ai_nextHour_81 (fun H locs hP hD hS => ?_)
    obtain ⟨gAi_9, egAi_9, h⟩ := letb_i h
    have hP : va_P D vwCl (wAi xAi cI cZ gAi_9) H := by rw [egAi_9, u_Ai_0_1]; exact hP
    have hD : va_D A (wAi xAi cI cZ gAi_9) := by rw [egAi_9, u_Ai_0_1]; exact hD
    refine lv_iload_n hx hb d_Ai_nextHour_84 rfl (lv_at hl 1 rfl) ?_
    refine lv_iload_n hx hb d_Ai_nextHour_85 rfl (lv_at hl 0 rfl) ?_
    refine lv_iadd hx hb d_Ai_nextHour_86 ?_
    cases h
    rw [hQ]
    exact mi_ret C0 hr rfl hlk hP hD hS d_Ai_nextHour_87
  refine lv_if_ne (tgt := 31) hx hb d_Ai_nextHour_22 (by decide) (fun c_10 => ?_) (fun c_10 => ?_)
  · rw [if_neg c_10] at h
    refine lv_aload_n hx hb d_Ai_nextHour_31 rfl (lv_at hl 0 rfl) ?_
    refine va_get (ci := 0) (v := .ref (xAi 1)) (C := R_Ai) (T := F_Ai) (N := 3) hx hb hts i_Ai hown hK hP 0 rfl rfl 0 (by decide) (hts _ m_161) (fun _ h9 => h9) rfl d_Ai_nextHour_32 ?_
    refine lv_aload_n hx hb d_Ai_nextHour_35 rfl (lv_at hl 0 rfl) ?_
    refine va_get (ci := 0) (v := .int (gAi 0 1)) (C := R_Ai) (T := F_Ai) (N := 3) hx hb hts i_Ai hown hK hP 0 rfl rfl 1 (by decide) (hts _ m_162) (fun _ h9 => h9) rfl d_Ai_nextHour_36 ?_
    refine lv_iconst (v := 1) hx hb d_Ai_nextHour_39 (by decide) ?_
    refine lv_isub hx hb d_Ai_nextHour_40 ?_
    obtain ⟨hi_11, h⟩ := gb_i h
    refine va_iald hx hb hK hP 1 0 rfl rfl (inb_in hi_11) d_Ai_nextHour_41 ?_
    obtain ⟨x_12, ex_12, h⟩ := letb_i h
    refine lv_topn ex_12 ?_
    exact K42 x_12 H locs ls hP hD hS (lv_sub hl [0, 1] rfl) h
  · rw [if_pos c_10] at h
    refine lv_sipush (v := 20000) hx hb d_Ai_nextHour_25 (by decide) ?_
    refine lv_goto (tgt := 42) hx hb d_Ai_nextHour_28 (by decide) ?_
    exact K42 20000 H locs ls hP hD hS (lv_sub hl [0, 1] rfl) h
abbrev rm_Ai_nextHour_t : Room := { frames := 7, cells := 1, slots := 6, locals := 104 }
set_option maxRecDepth 100000 in
set_option maxHeartbeats 4000000 in
theorem c_Ai_nextHour_t (l : Launch) (hltr : l.stackTraces = false) (D : va_G) (cI cZ cJ : ClassId) (xAi : Nat → Nat) (sz : Nat) (gAi : St) (p1 : Int32) (E : String) (h : f_Ai_nextHour gAi p1 = some (.inr E)) : MT l y_Ai_nextHour b_Ai_nextHour 4 (some .int) rm_Ai_nextHour_t D (TYS cI cZ cJ) [.ref (xAi 0), .int p1] (wAi xAi cI cZ gAi) sz E := by
  refine mt_start (own := R_Ai) (by decide +kernel) rfl (Nat.le_of_ble_eq_true rfl) (fun p e s m args below meth c A ls C0 hAe hno hlk hP hD hS hl => ?_)
  obtain ⟨Q, hQ⟩ : ∃ Q, Q = QT below D (TYS cI cZ cJ) (wAi xAi cI cZ gAi) E args s := ⟨_, rfl⟩
  rw [← hQ]
  obtain ⟨hx, hb, -, hown, hts, hK, hE, -⟩ := id C0
  have hl : lv_has ls 4 [(0, .ref (xAi 0)), (1, .int p1)] := hl
  obtain ⟨H, hH⟩ : ∃ H, H = s.heap := ⟨_, rfl⟩
  have hP : va_P D vwCl (wAi xAi cI cZ gAi) H := by rw [hH]; exact hP
  have hS : va_S A s.heap H [] := by rw [hH]; exact hS
  rw [show W p l e rm_Ai_nextHour_t s m args below meth c s.heap = W p l e rm_Ai_nextHour_t s m args below meth c H by rw [hH]]
  generalize ([] : List Loc) = locs at hS ⊢
  unfold f_Ai_nextHour at h
  refine lv_aload_n hx hb d_Ai_nextHour_0 rfl (lv_at hl 0 rfl) ?_
  refine va_get (ci := 0) (v := .int (gAi 0 1)) (C := R_Ai) (T := F_Ai) (N := 3) hx hb hts i_Ai hown hK hP 0 rfl rfl 1 (by decide) (hts _ m_162) (fun _ h9 => h9) rfl d_Ai_nextHour_1 ?_
  refine lv_sipush (v := 200) hx hb d_Ai_nextHour_4 (by decide) ?_
  obtain ⟨hc_1, h⟩ | ⟨E9, hc_1, h⟩ := xc0_i h
  rotate_left
  · cases h
    rw [hQ]
    exact x_out C0 hAe hno hlk hP hD hS [] rfl rfl rfl (rN (As := [.int (gAi 0 1), .int 200]) (rest := []) C0 hP hD hS hl.1 [] (c_Cc_requireRoom_t l hltr D cI cZ cJ  H.size (gAi 0 1) 200 E hc_1) k_Cc_requireRoom (List.mem_of_getElem? (i := 12) rfl) rfl rfl ⟨by decide, by decide⟩ ⟨rfl, rfl⟩ rfl (Nat.le_of_ble_eq_true rfl) d_Ai_nextHour_7 ⟨by decide, by decide⟩) ⟨rfl, rfl⟩
  refine cNv (ws' := (wAi xAi cI cZ gAi)) (As := [.int (gAi 0 1), .int 200]) (rest := []) C0 hP hD hS hl.1 [] (c_Cc_requireRoom_r l D cI cZ cJ  H.size (gAi 0 1) 200 hc_1) k_Cc_requireRoom (List.mem_of_getElem? (i := 12) rfl) rfl rfl rfl (rp_same rfl) ⟨by decide, by decide⟩ ⟨rfl, rfl⟩ rfl (Nat.le_of_ble_eq_true rfl) d_Ai_nextHour_7 ⟨Nat.zero_le _, Nat.zero_le _⟩ (fun H locs hP hD hS => ?_)
  refine lv_iload_n hx hb d_Ai_nextHour_10 rfl (lv_at hl 1 rfl) ?_
  refine lv_bipush (v := (-60)) hx hb d_Ai_nextHour_11 (by decide) ?_
  refine lv_bipush (v := 60) hx hb d_Ai_nextHour_13 (by decide) ?_
  obtain ⟨hc_2, h⟩ | ⟨E9, hc_2, h⟩ := xc0_i h
  rotate_left
  · cases h
    rw [hQ]
    exact x_out C0 hAe hno hlk hP hD hS [] rfl rfl rfl (rN (As := [.int p1, .int (-60), .int 60]) (rest := []) C0 hP hD hS hl.1 [] (c_Cc_requireRange_t l hltr D cI cZ cJ  H.size p1 (-60) 60 E hc_2) k_Cc_requireRange (List.mem_of_getElem? (i := 11) rfl) rfl rfl ⟨by decide, by decide⟩ ⟨rfl, rfl⟩ rfl (Nat.le_of_ble_eq_true rfl) d_Ai_nextHour_15 ⟨by decide, by decide⟩) ⟨rfl, rfl⟩
  refine cNv (ws' := (wAi xAi cI cZ gAi)) (As := [.int p1, .int (-60), .int 60]) (rest := []) C0 hP hD hS hl.1 [] (c_Cc_requireRange_r l D cI cZ cJ  H.size p1 (-60) 60 hc_2) k_Cc_requireRange (List.mem_of_getElem? (i := 11) rfl) rfl rfl rfl (rp_same rfl) ⟨by decide, by decide⟩ ⟨rfl, rfl⟩ rfl (Nat.le_of_ble_eq_true rfl) d_Ai_nextHour_15 ⟨Nat.zero_le _, Nat.zero_le _⟩ (fun H locs hP hD hS => ?_)
  refine lv_aload_n hx hb d_Ai_nextHour_18 rfl (lv_at hl 0 rfl) ?_
  refine va_get (ci := 0) (v := .int (gAi 0 1)) (C := R_Ai) (T := F_Ai) (N := 3) hx hb hts i_Ai hown hK hP 0 rfl rfl 1 (by decide) (hts _ m_162) (fun _ h9 => h9) rfl d_Ai_nextHour_19 ?_
  have K42 : ∀ (s0_42 : Int32) (H : Heap) (locs : List Loc) (ls : Array Slot), va_P D vwCl (wAi xAi cI cZ gAi) H → va_D A (wAi xAi cI cZ gAi) → va_S A s.heap H locs → lv_has ls 4 [(0, .ref (xAi 0)), (1, .int p1)] → f_Ai_nextHour_J42 gAi p1 s0_42 = some (.inr E) → W p l e rm_Ai_nextHour_t s m args below meth c H locs 0 0 Q (F0 m 42 ls [.int s0_42]) := by
    intro s0_42 H locs ls hP hD hS hl h
    unfold f_Ai_nextHour_J42 at h
    refine lv_istore_n (lv' := [(2, .int s0_42), (0, .ref (xAi 0)), (1, .int p1)]) hx hb d_Ai_nextHour_42 rfl hl (by decide) rfl (fun ls hl => ?_)
    refine lv_iload_n hx hb d_Ai_nextHour_43 rfl (lv_at hl 2 rfl) ?_
    refine lv_sipush (v := 1000) hx hb d_Ai_nextHour_44 (by decide) ?_
    refine lv_imul hx hb d_Ai_nextHour_47 ?_
    refine lv_iload_n hx hb d_Ai_nextHour_48 rfl (lv_at hl 0 rfl) ?_
    refine lv_isub hx hb d_Ai_nextHour_49 ?_
    refine lv_aload_n hx hb d_Ai_nextHour_50 rfl (lv_at hl 1 rfl) ?_
    refine va_get (ci := 0) (v := .int (gAi 0 2)) (C := R_Ai) (T := F_Ai) (N := 3) hx hb hts i_Ai hown hK hP 0 rfl rfl 2 (by decide) (hts _ m_164) (fun _ h9 => h9) rfl d_Ai_nextHour_51 ?_
    refine lv_iconst (v := 1) hx hb d_Ai_nextHour_54 (by decide) ?_
    obtain ⟨r_3, hc_4, h⟩ := xv1_i h
    refine cSi (ws' := (wAi xAi cI cZ gAi)) (As := [.int (gAi 0 2), .int 1]) (rest := [.int ((p1 * 1000) - s0_42)]) C0 hP hD hS hl.1 [] (c_Ma_max_r l D cI cZ cJ  H.size (gAi 0 2) 1 r_3 hc_4) k_Ma_max m_607 rfl rfl rfl (rp_same rfl) ⟨by decide, by decide⟩ ⟨rfl, rfl⟩ rfl (Nat.le_of_ble_eq_true rfl) d_Ai_nextHour_55 ⟨Nat.zero_le _, Nat.zero_le _⟩ (fun H locs hP hD hS => ?_)
    obtain ⟨r_5, hc_6, h⟩ := xv1_i h
    refine cSi (ws' := (wAi xAi cI cZ gAi)) (As := [.int ((p1 * 1000) - s0_42), .int r_3]) (rest := []) C0 hP hD hS hl.1 [] (c_Ma_floorDiv_r l D cI cZ cJ  H.size ((p1 * 1000) - s0_42) r_3 r_5 hc_6) k_Ma_floorDiv m_610 rfl rfl rfl (rp_same rfl) ⟨by decide, by decide⟩ ⟨rfl, rfl⟩ rfl (Nat.le_of_ble_eq_true rfl) d_Ai_nextHour_58 ⟨Nat.zero_le _, Nat.zero_le _⟩ (fun H locs hP hD hS => ?_)
    refine lv_istore_n (lv' := [(3, .int r_5), (2, .int s0_42), (0, .ref (xAi 0)), (1, .int p1)]) hx hb d_Ai_nextHour_61 rfl hl (by decide) rfl (fun ls hl => ?_)
    refine lv_aload_n hx hb d_Ai_nextHour_62 rfl (lv_at hl 2 rfl) ?_
    refine va_get (ci := 0) (v := .ref (xAi 1)) (C := R_Ai) (T := F_Ai) (N := 3) hx hb hts i_Ai hown hK hP 0 rfl rfl 0 (by decide) (hts _ m_161) (fun _ h9 => h9) rfl d_Ai_nextHour_63 ?_
    refine lv_aload_n hx hb d_Ai_nextHour_66 rfl (lv_at hl 2 rfl) ?_
    refine va_get (ci := 0) (v := .int (gAi 0 1)) (C := R_Ai) (T := F_Ai) (N := 3) hx hb hts i_Ai hown hK hP 0 rfl rfl 1 (by decide) (hts _ m_162) (fun _ h9 => h9) rfl d_Ai_nextHour_67 ?_
    refine lv_iload_n hx hb d_Ai_nextHour_70 rfl (lv_at hl 1 rfl) ?_
    refine lv_iload_n hx hb d_Ai_nextHour_71 rfl (lv_at hl 0 rfl) ?_
    refine lv_iadd hx hb d_Ai_nextHour_72 ?_
    obtain ⟨hi_7, h⟩ := gb_i h
    refine va_iast hx hb hK hP hD hS 1 0 rfl rfl (inb_in hi_7) d_Ai_nextHour_73 (fun H locs hP hD hS => ?_)
    obtain ⟨gAi_8, egAi_8, h⟩ := letb_i h
    have hP : va_P D vwCl (wAi xAi cI cZ gAi_8) H := by rw [egAi_8, u_Ai_1]; exact hP
    have hD : va_D A (wAi xAi cI cZ gAi_8) := by rw [egAi_8, u_Ai_1]; exact hD
    refine lv_aload_n hx hb d_Ai_nextHour_74 rfl (lv_at hl 2 rfl) ?_
    refine lv_dup hx hb d_Ai_nextHour_75 rfl ?_
    refine va_get (ci := 0) (v := .int (gAi_8 0 1)) (C := R_Ai) (T := F_Ai) (N := 3) hx hb hts i_Ai hown hK hP 0 rfl rfl 1 (by decide) (hts _ m_162) (fun _ h9 => h9) rfl d_Ai_nextHour_76 ?_
    refine lv_iconst (v := 1) hx hb d_Ai_nextHour_79 (by decide) ?_
    refine lv_iadd hx hb d_Ai_nextHour_80 ?_
    refine va_put (ci := 0) (v := .int ((gAi_8 0 1) + 1)) (ty := .int) (C := R_Ai) (T := F_Ai) (N := 3) hx hb hts i_Ai t_Ai o_Ai n_Ai hown hK hP hD hS 0 rfl rfl 1 (by decide) (hts _ m_162) (fun _ h9 => h9) rfl (by decide +kernel) rfl rfl (Nat.le_of_ble_eq_true rfl) d_Ai_nextHour_81 (fun H locs hP hD hS => ?_)
    obtain ⟨gAi_9, egAi_9, h⟩ := letb_i h
    have hP : va_P D vwCl (wAi xAi cI cZ gAi_9) H := by rw [egAi_9, u_Ai_0_1]; exact hP
    have hD : va_D A (wAi xAi cI cZ gAi_9) := by rw [egAi_9, u_Ai_0_1]; exact hD
    refine lv_iload_n hx hb d_Ai_nextHour_84 rfl (lv_at hl 1 rfl) ?_
    refine lv_iload_n hx hb d_Ai_nextHour_85 rfl (lv_at hl 0 rfl) ?_
    refine lv_iadd hx hb d_Ai_nextHour_86 ?_
    cases h
  refine lv_if_ne (tgt := 31) hx hb d_Ai_nextHour_22 (by decide) (fun c_10 => ?_) (fun c_10 => ?_)
  · rw [if_neg c_10] at h
    refine lv_aload_n hx hb d_Ai_nextHour_31 rfl (lv_at hl 0 rfl) ?_
    refine va_get (ci := 0) (v := .ref (xAi 1)) (C := R_Ai) (T := F_Ai) (N := 3) hx hb hts i_Ai hown hK hP 0 rfl rfl 0 (by decide) (hts _ m_161) (fun _ h9 => h9) rfl d_Ai_nextHour_32 ?_
    refine lv_aload_n hx hb d_Ai_nextHour_35 rfl (lv_at hl 0 rfl) ?_
    refine va_get (ci := 0) (v := .int (gAi 0 1)) (C := R_Ai) (T := F_Ai) (N := 3) hx hb hts i_Ai hown hK hP 0 rfl rfl 1 (by decide) (hts _ m_162) (fun _ h9 => h9) rfl d_Ai_nextHour_36 ?_
    refine lv_iconst (v := 1) hx hb d_Ai_nextHour_39 (by decide) ?_
    refine lv_isub hx hb d_Ai_nextHour_40 ?_
    obtain ⟨hi_11, h⟩ := gb_i h
    refine va_iald hx hb hK hP 1 0 rfl rfl (inb_in hi_11) d_Ai_nextHour_41 ?_
    obtain ⟨x_12, ex_12, h⟩ := letb_i h
    refine lv_topn ex_12 ?_
    exact K42 x_12 H locs ls hP hD hS (lv_sub hl [0, 1] rfl) h
  · rw [if_pos c_10] at h
    refine lv_sipush (v := 20000) hx hb d_Ai_nextHour_25 (by decide) ?_
    refine lv_goto (tgt := 42) hx hb d_Ai_nextHour_28 (by decide) ?_
    exact K42 20000 H locs ls hP hD hS (lv_sub hl [0, 1] rfl) h
abbrev rm_Ai_afterHour_r : Room := { frames := 1, cells := 0, slots := 0, locals := 21 }
set_option maxRecDepth 100000 in
set_option maxHeartbeats 4000000 in
theorem c_Ai_afterHour_r (l : Launch) (D : va_G) (cI cZ cJ : ClassId) (xAi : Nat → Nat) (sz : Nat) (gAi : St) (p1 : Int32) (r : Int32) (h : f_Ai_afterHour gAi p1 = some (.inl r)) : MI l y_Ai_afterHour b_Ai_afterHour 2 (some .int) rm_Ai_afterHour_r D (TYS cI cZ cJ) [.ref (xAi 0), .int p1] (wAi xAi cI cZ gAi) sz r (wAi xAi cI cZ gAi) := by
  refine mi_start (own := R_Ai) (by decide +kernel) rfl (Nat.le_of_ble_eq_true rfl) (fun p e s m args below meth c A ls C0 hr hlk hP hD hS hl => ?_)
  obtain ⟨Q, hQ⟩ : ∃ Q, Q = QI below D (TYS cI cZ cJ) A (wAi xAi cI cZ gAi) r args s := ⟨_, rfl⟩
  rw [← hQ]
  obtain ⟨hx, hb, -, hown, hts, hK, hE, -⟩ := id C0
  have hl : lv_has ls 2 [(0, .ref (xAi 0)), (1, .int p1)] := hl
  obtain ⟨H, hH⟩ : ∃ H, H = s.heap := ⟨_, rfl⟩
  have hP : va_P D vwCl (wAi xAi cI cZ gAi) H := by rw [hH]; exact hP
  have hS : va_S A s.heap H [] := by rw [hH]; exact hS
  rw [show W p l e rm_Ai_afterHour_r s m args below meth c s.heap = W p l e rm_Ai_afterHour_r s m args below meth c H by rw [hH]]
  generalize ([] : List Loc) = locs at hS ⊢
  unfold f_Ai_afterHour at h
  refine lv_iload_n hx hb d_Ai_afterHour_0 rfl (lv_at hl 1 rfl) ?_
  refine lv_aload_n hx hb d_Ai_afterHour_1 rfl (lv_at hl 0 rfl) ?_
  refine va_get (ci := 0) (v := .int (gAi 0 1)) (C := R_Ai) (T := F_Ai) (N := 3) hx hb hts i_Ai hown hK hP 0 rfl rfl 1 (by decide) (hts _ m_162) (fun _ h9 => h9) rfl d_Ai_afterHour_2 ?_
  obtain ⟨hc_1, h⟩ | ⟨E9, hc_1, h⟩ := xc0_i h
  rotate_left
  · cases h
  refine cNv (ws' := (wAi xAi cI cZ gAi)) (As := [.int p1, .int (gAi 0 1)]) (rest := []) C0 hP hD hS hl.1 [] (c_Cc_requireIndex_r l D cI cZ cJ  H.size p1 (gAi 0 1) hc_1) k_Cc_requireIndex (List.mem_of_getElem? (i := 13) rfl) rfl rfl rfl (rp_same rfl) ⟨by decide, by decide⟩ ⟨rfl, rfl⟩ rfl (Nat.le_of_ble_eq_true rfl) d_Ai_afterHour_5 ⟨Nat.zero_le _, Nat.zero_le _⟩ (fun H locs hP hD hS => ?_)
  refine lv_aload_n hx hb d_Ai_afterHour_8 rfl (lv_at hl 0 rfl) ?_
  refine va_get (ci := 0) (v := .ref (xAi 1)) (C := R_Ai) (T := F_Ai) (N := 3) hx hb hts i_Ai hown hK hP 0 rfl rfl 0 (by decide) (hts _ m_161) (fun _ h9 => h9) rfl d_Ai_afterHour_9 ?_
  refine lv_iload_n hx hb d_Ai_afterHour_12 rfl (lv_at hl 1 rfl) ?_
  obtain ⟨hi_2, h⟩ := gb_i h
  refine va_iald hx hb hK hP 1 0 rfl rfl (inb_in hi_2) d_Ai_afterHour_13 ?_
  obtain ⟨x_3, ex_3, h⟩ := letb_i h
  refine lv_topn ex_3 ?_
  cases h
  rw [hQ]
  exact mi_ret C0 hr rfl hlk hP hD hS d_Ai_afterHour_14
abbrev rm_Ai_afterHour_t : Room := { frames := 7, cells := 1, slots := 6, locals := 103 }
set_option maxRecDepth 100000 in
set_option maxHeartbeats 4000000 in
theorem c_Ai_afterHour_t (l : Launch) (hltr : l.stackTraces = false) (D : va_G) (cI cZ cJ : ClassId) (xAi : Nat → Nat) (sz : Nat) (gAi : St) (p1 : Int32) (E : String) (h : f_Ai_afterHour gAi p1 = some (.inr E)) : MT l y_Ai_afterHour b_Ai_afterHour 2 (some .int) rm_Ai_afterHour_t D (TYS cI cZ cJ) [.ref (xAi 0), .int p1] (wAi xAi cI cZ gAi) sz E := by
  refine mt_start (own := R_Ai) (by decide +kernel) rfl (Nat.le_of_ble_eq_true rfl) (fun p e s m args below meth c A ls C0 hAe hno hlk hP hD hS hl => ?_)
  obtain ⟨Q, hQ⟩ : ∃ Q, Q = QT below D (TYS cI cZ cJ) (wAi xAi cI cZ gAi) E args s := ⟨_, rfl⟩
  rw [← hQ]
  obtain ⟨hx, hb, -, hown, hts, hK, hE, -⟩ := id C0
  have hl : lv_has ls 2 [(0, .ref (xAi 0)), (1, .int p1)] := hl
  obtain ⟨H, hH⟩ : ∃ H, H = s.heap := ⟨_, rfl⟩
  have hP : va_P D vwCl (wAi xAi cI cZ gAi) H := by rw [hH]; exact hP
  have hS : va_S A s.heap H [] := by rw [hH]; exact hS
  rw [show W p l e rm_Ai_afterHour_t s m args below meth c s.heap = W p l e rm_Ai_afterHour_t s m args below meth c H by rw [hH]]
  generalize ([] : List Loc) = locs at hS ⊢
  unfold f_Ai_afterHour at h
  refine lv_iload_n hx hb d_Ai_afterHour_0 rfl (lv_at hl 1 rfl) ?_
  refine lv_aload_n hx hb d_Ai_afterHour_1 rfl (lv_at hl 0 rfl) ?_
  refine va_get (ci := 0) (v := .int (gAi 0 1)) (C := R_Ai) (T := F_Ai) (N := 3) hx hb hts i_Ai hown hK hP 0 rfl rfl 1 (by decide) (hts _ m_162) (fun _ h9 => h9) rfl d_Ai_afterHour_2 ?_
  obtain ⟨hc_1, h⟩ | ⟨E9, hc_1, h⟩ := xc0_i h
  rotate_left
  · cases h
    rw [hQ]
    exact x_out C0 hAe hno hlk hP hD hS [] rfl rfl rfl (rN (As := [.int p1, .int (gAi 0 1)]) (rest := []) C0 hP hD hS hl.1 [] (c_Cc_requireIndex_t l hltr D cI cZ cJ  H.size p1 (gAi 0 1) E hc_1) k_Cc_requireIndex (List.mem_of_getElem? (i := 13) rfl) rfl rfl ⟨by decide, by decide⟩ ⟨rfl, rfl⟩ rfl (Nat.le_of_ble_eq_true rfl) d_Ai_afterHour_5 ⟨by decide, by decide⟩) ⟨rfl, rfl⟩
  refine cNv (ws' := (wAi xAi cI cZ gAi)) (As := [.int p1, .int (gAi 0 1)]) (rest := []) C0 hP hD hS hl.1 [] (c_Cc_requireIndex_r l D cI cZ cJ  H.size p1 (gAi 0 1) hc_1) k_Cc_requireIndex (List.mem_of_getElem? (i := 13) rfl) rfl rfl rfl (rp_same rfl) ⟨by decide, by decide⟩ ⟨rfl, rfl⟩ rfl (Nat.le_of_ble_eq_true rfl) d_Ai_afterHour_5 ⟨Nat.zero_le _, Nat.zero_le _⟩ (fun H locs hP hD hS => ?_)
  refine lv_aload_n hx hb d_Ai_afterHour_8 rfl (lv_at hl 0 rfl) ?_
  refine va_get (ci := 0) (v := .ref (xAi 1)) (C := R_Ai) (T := F_Ai) (N := 3) hx hb hts i_Ai hown hK hP 0 rfl rfl 0 (by decide) (hts _ m_161) (fun _ h9 => h9) rfl d_Ai_afterHour_9 ?_
  refine lv_iload_n hx hb d_Ai_afterHour_12 rfl (lv_at hl 1 rfl) ?_
  obtain ⟨hi_2, h⟩ := gb_i h
  refine va_iald hx hb hK hP 1 0 rfl rfl (inb_in hi_2) d_Ai_afterHour_13 ?_
  obtain ⟨x_3, ex_3, h⟩ := letb_i h
  refine lv_topn ex_3 ?_
  cases h
abbrev rm_Ai_longestWithin_r : Room := { frames := 1, cells := 0, slots := 0, locals := 21 }
set_option maxRecDepth 100000 in
set_option maxHeartbeats 4000000 in
theorem c_Ai_longestWithin_r (l : Launch) (D : va_G) (cI cZ cJ : ClassId) (xAi : Nat → Nat) (sz : Nat) (gAi : St) (p1 : Int32) (p2 : Int32) (r : Int32) (h : f_Ai_longestWithin gAi p1 p2 = some (.inl r)) : MI l y_Ai_longestWithin b_Ai_longestWithin 7 (some .int) rm_Ai_longestWithin_r D (TYS cI cZ cJ) [.ref (xAi 0), .int p1, .int p2] (wAi xAi cI cZ gAi) sz r (wAi xAi cI cZ gAi) := by
  refine mi_start (own := R_Ai) (by decide +kernel) rfl (Nat.le_of_ble_eq_true rfl) (fun p e s m args below meth c A ls C0 hr hlk hP hD hS hl => ?_)
  obtain ⟨Q, hQ⟩ : ∃ Q, Q = QI below D (TYS cI cZ cJ) A (wAi xAi cI cZ gAi) r args s := ⟨_, rfl⟩
  rw [← hQ]
  obtain ⟨hx, hb, -, hown, hts, hK, hE, -⟩ := id C0
  have hl : lv_has ls 7 [(0, .ref (xAi 0)), (1, .int p1), (2, .int p2)] := hl
  obtain ⟨H, hH⟩ : ∃ H, H = s.heap := ⟨_, rfl⟩
  have hP : va_P D vwCl (wAi xAi cI cZ gAi) H := by rw [hH]; exact hP
  have hS : va_S A s.heap H [] := by rw [hH]; exact hS
  rw [show W p l e rm_Ai_longestWithin_r s m args below meth c s.heap = W p l e rm_Ai_longestWithin_r s m args below meth c H by rw [hH]]
  generalize ([] : List Loc) = locs at hS ⊢
  unfold f_Ai_longestWithin at h
  refine lv_iload_n hx hb d_Ai_longestWithin_0 rfl (lv_at hl 1 rfl) ?_
  refine lv_iload_n hx hb d_Ai_longestWithin_1 rfl (lv_at hl 2 rfl) ?_
  refine lv_icmp_le (tgt := 15) hx hb d_Ai_longestWithin_2 (by decide) (fun c_1 => ?_) (fun c_1 => ?_)
  · rw [if_pos c_1] at h
    refine lv_iconst (v := 0) hx hb d_Ai_longestWithin_15 (by decide) ?_
    refine lv_istore_n (lv' := [(3, .int 0), (0, .ref (xAi 0)), (1, .int p1), (2, .int p2)]) hx hb d_Ai_longestWithin_16 rfl hl (by decide) rfl (fun ls hl => ?_)
    refine lv_iconst (v := 0) hx hb d_Ai_longestWithin_17 (by decide) ?_
    refine lv_istore (lv' := [(4, .int 0), (3, .int 0), (0, .ref (xAi 0)), (1, .int p1), (2, .int p2)]) hx hb d_Ai_longestWithin_18 hl (by decide) rfl (fun ls hl => ?_)
    refine lv_iconst (v := 0) hx hb d_Ai_longestWithin_20 (by decide) ?_
    refine lv_istore (lv' := [(5, .int 0), (4, .int 0), (3, .int 0), (0, .ref (xAi 0)), (1, .int p1), (2, .int p2)]) hx hb d_Ai_longestWithin_21 hl (by decide) rfl (fun ls hl => ?_)
    have K89 : ∀ (v3_89 : Int32) (v4_89 : Int32) (v5_89 : Int32) (H : Heap) (locs : List Loc) (ls : Array Slot), va_P D vwCl (wAi xAi cI cZ gAi) H → va_D A (wAi xAi cI cZ gAi) → va_S A s.heap H locs → lv_has ls 7 [(0, .ref (xAi 0)), (1, .int p1), (2, .int p2), (3, .int v3_89), (4, .int v4_89), (5, .int v5_89)] → f_Ai_longestWithin_X89 v3_89 v4_89 v5_89 = some (.inl r) → W p l e rm_Ai_longestWithin_r s m args below meth c H locs 0 0 Q (F0 m 89 ls []) := by
      intro v3_89 v4_89 v5_89 H locs ls hP hD hS hl h
      unfold f_Ai_longestWithin_X89 at h
      refine lv_iload_n hx hb d_Ai_longestWithin_89 rfl (lv_at hl 3 rfl) ?_
      cases h
      rw [hQ]
      exact mi_ret C0 hr rfl hlk hP hD hS d_Ai_longestWithin_90
    have K23 : ∀ (n : Nat) (v3_23 : Int32) (v4_23 : Int32) (v5_23 : Int32) (H : Heap) (locs : List Loc) (ls : Array Slot), va_P D vwCl (wAi xAi cI cZ gAi) H → va_D A (wAi xAi cI cZ gAi) → va_S A s.heap H locs → lv_has ls 7 [(0, .ref (xAi 0)), (1, .int p1), (2, .int p2), (3, .int v3_23), (4, .int v4_23), (5, .int v5_23)] → it3 (f_Ai_longestWithin_L23 gAi p1 p2) n v3_23 v4_23 v5_23 = some (.inl r) → W p l e rm_Ai_longestWithin_r s m args below meth c H locs 0 0 Q (F0 m 23 ls []) := by
      intro n
      induction n with
      | zero => intro v3_23 v4_23 v5_23 H locs ls hP hD hS hl h; exact (it3_0 h).elim
      | succ n ih =>
        intro v3_23 v4_23 v5_23 H locs ls hP hD hS hl h
        rw [it3_s, f_Ai_longestWithin_L23] at h
        generalize it3 (f_Ai_longestWithin_L23 gAi p1 p2) n = kc_23 at h ih
        refine lv_iload hx hb d_Ai_longestWithin_23 (lv_at hl 5 rfl) ?_
        refine lv_aload_n hx hb d_Ai_longestWithin_25 rfl (lv_at hl 0 rfl) ?_
        refine va_get (ci := 0) (v := .int (gAi 0 1)) (C := R_Ai) (T := F_Ai) (N := 3) hx hb hts i_Ai hown hK hP 0 rfl rfl 1 (by decide) (hts _ m_162) (fun _ h9 => h9) rfl d_Ai_longestWithin_26 ?_
        refine lv_icmp_ge (tgt := 89) hx hb d_Ai_longestWithin_29 (by decide) (fun c_2 => ?_) (fun c_2 => ?_)
        · rw [if_pos c_2] at h
          exact K89 v3_23 v4_23 v5_23 H locs ls hP hD hS (lv_sub hl [0, 1, 2, 3, 4, 5] rfl) h
        · rw [if_neg c_2] at h
          refine lv_aload_n hx hb d_Ai_longestWithin_32 rfl (lv_at hl 0 rfl) ?_
          refine va_get (ci := 0) (v := .ref (xAi 1)) (C := R_Ai) (T := F_Ai) (N := 3) hx hb hts i_Ai hown hK hP 0 rfl rfl 0 (by decide) (hts _ m_161) (fun _ h9 => h9) rfl d_Ai_longestWithin_33 ?_
          refine lv_iload hx hb d_Ai_longestWithin_36 (lv_at hl 5 rfl) ?_
          obtain ⟨hi_3, h⟩ := gb_i h
          refine va_iald hx hb hK hP 1 0 rfl rfl (inb_in hi_3) d_Ai_longestWithin_38 ?_
          obtain ⟨x_4, ex_4, h⟩ := letb_i h
          refine lv_topn ex_4 ?_
          refine lv_iload_n hx hb d_Ai_longestWithin_39 rfl (lv_at hl 1 rfl) ?_
          have K59 : ∀ (s0_59 : Int32) (v3_59 : Int32) (v4_59 : Int32) (v5_59 : Int32) (H : Heap) (locs : List Loc) (ls : Array Slot), va_P D vwCl (wAi xAi cI cZ gAi) H → va_D A (wAi xAi cI cZ gAi) → va_S A s.heap H locs → lv_has ls 7 [(0, .ref (xAi 0)), (1, .int p1), (2, .int p2), (3, .int v3_59), (4, .int v4_59), (5, .int v5_59)] → f_Ai_longestWithin_J59 kc_23 s0_59 v3_59 v4_59 v5_59 = some (.inl r) → W p l e rm_Ai_longestWithin_r s m args below meth c H locs 0 0 Q (F0 m 59 ls [.int s0_59]) := by
            intro s0_59 v3_59 v4_59 v5_59 H locs ls hP hD hS hl h
            unfold f_Ai_longestWithin_J59 at h
            refine lv_istore (lv' := [(6, .int s0_59), (0, .ref (xAi 0)), (1, .int p1), (2, .int p2), (3, .int v3_59), (4, .int v4_59), (5, .int v5_59)]) hx hb d_Ai_longestWithin_59 hl (by decide) rfl (fun ls hl => ?_)
            refine lv_iload hx hb d_Ai_longestWithin_61 (lv_at hl 0 rfl) ?_
            have K74 : ∀ (s0_74 : Int32) (v3_74 : Int32) (v4_74 : Int32) (v5_74 : Int32) (v6_74 : Int32) (H : Heap) (locs : List Loc) (ls : Array Slot), va_P D vwCl (wAi xAi cI cZ gAi) H → va_D A (wAi xAi cI cZ gAi) → va_S A s.heap H locs → lv_has ls 7 [(0, .ref (xAi 0)), (1, .int p1), (2, .int p2), (3, .int v3_74), (4, .int v4_74), (5, .int v5_74), (6, .int v6_74)] → f_Ai_longestWithin_J74 kc_23 s0_74 v3_74 v4_74 v5_74 v6_74 = some (.inl r) → W p l e rm_Ai_longestWithin_r s m args below meth c H locs 0 0 Q (F0 m 74 ls [.int s0_74]) := by
              intro s0_74 v3_74 v4_74 v5_74 v6_74 H locs ls hP hD hS hl h
              unfold f_Ai_longestWithin_J74 at h
              refine lv_istore (lv' := [(4, .int s0_74), (0, .ref (xAi 0)), (1, .int p1), (2, .int p2), (3, .int v3_74), (5, .int v5_74), (6, .int v6_74)]) hx hb d_Ai_longestWithin_74 hl (by decide) rfl (fun ls hl => ?_)
              refine lv_iload_n hx hb d_Ai_longestWithin_76 rfl (lv_at hl 4 rfl) ?_
              refine lv_iload hx hb d_Ai_longestWithin_77 (lv_at hl 0 rfl) ?_
              obtain ⟨r_5, hc_6, h⟩ := xv1_i h
              refine cSi (ws' := (wAi xAi cI cZ gAi)) (As := [.int v3_74, .int s0_74]) (rest := []) C0 hP hD hS hl.1 [] (c_Ma_max_r l D cI cZ cJ  H.size v3_74 s0_74 r_5 hc_6) k_Ma_max m_607 rfl rfl rfl (rp_same rfl) ⟨by decide, by decide⟩ ⟨rfl, rfl⟩ rfl (Nat.le_of_ble_eq_true rfl) d_Ai_longestWithin_79 ⟨Nat.zero_le _, Nat.zero_le _⟩ (fun H locs hP hD hS => ?_)
              refine lv_istore_n (lv' := [(3, .int r_5), (4, .int s0_74), (0, .ref (xAi 0)), (1, .int p1), (2, .int p2), (5, .int v5_74), (6, .int v6_74)]) hx hb d_Ai_longestWithin_82 rfl hl (by decide) rfl (fun ls hl => ?_)
              obtain ⟨x_7, ex_7, h⟩ := letb_i h
              refine lv_iinc (v := x_7) (lv' := [(5, .int x_7), (3, .int r_5), (4, .int s0_74), (0, .ref (xAi 0)), (1, .int p1), (2, .int p2), (6, .int v6_74)]) hx hb d_Ai_longestWithin_83 hl (k := 5) rfl (by rw [ex_7]; rfl) (by decide) rfl (fun ls hl => ?_)
              refine lv_goto (tgt := 23) hx hb d_Ai_longestWithin_86 (by decide) ?_
              exact ih r_5 s0_74 x_7 H locs ls hP hD hS (lv_sub hl [3, 4, 5, 1, 2, 0] rfl) h
            refine lv_if_eq (tgt := 73) hx hb d_Ai_longestWithin_63 (by decide) (fun c_8 => ?_) (fun c_8 => ?_)
            · rw [if_pos c_8] at h
              refine lv_iconst (v := 0) hx hb d_Ai_longestWithin_73 (by decide) ?_
              exact K74 0 v3_59 v4_59 v5_59 s0_59 H locs ls hP hD hS (lv_sub hl [1, 2, 3, 4, 5, 6, 0] rfl) h
            · rw [if_neg c_8] at h
              refine lv_iload hx hb d_Ai_longestWithin_66 (lv_at hl 5 rfl) ?_
              refine lv_iconst (v := 1) hx hb d_Ai_longestWithin_68 (by decide) ?_
              refine lv_iadd hx hb d_Ai_longestWithin_69 ?_
              refine lv_goto (tgt := 74) hx hb d_Ai_longestWithin_70 (by decide) ?_
              exact K74 (v4_59 + 1) v3_59 v4_59 v5_59 s0_59 H locs ls hP hD hS (lv_sub hl [1, 2, 3, 4, 5, 6, 0] rfl) h
          have K58 : ∀ (v3_58 : Int32) (v4_58 : Int32) (v5_58 : Int32) (H : Heap) (locs : List Loc) (ls : Array Slot), va_P D vwCl (wAi xAi cI cZ gAi) H → va_D A (wAi xAi cI cZ gAi) → va_S A s.heap H locs → lv_has ls 7 [(0, .ref (xAi 0)), (1, .int p1), (2, .int p2), (3, .int v3_58), (4, .int v4_58), (5, .int v5_58)] → f_Ai_longestWithin_J58 kc_23 v3_58 v4_58 v5_58 = some (.inl r) → W p l e rm_Ai_longestWithin_r s m args below meth c H locs 0 0 Q (F0 m 58 ls []) := by
            intro v3_58 v4_58 v5_58 H locs ls hP hD hS hl h
            unfold f_Ai_longestWithin_J58 at h
            refine lv_iconst (v := 0) hx hb d_Ai_longestWithin_58 (by decide) ?_
            exact K59 0 v3_58 v4_58 v5_58 H locs ls hP hD hS (lv_sub hl [0, 1, 2, 3, 4, 5] rfl) h
          refine lv_icmp_lt (tgt := 58) hx hb d_Ai_longestWithin_40 (by decide) (fun c_9 => ?_) (fun c_9 => ?_)
          · rw [if_pos c_9] at h
            exact K58 v3_23 v4_23 v5_23 H locs ls hP hD hS (lv_sub hl [0, 1, 2, 3, 4, 5] rfl) h
          · rw [if_neg c_9] at h
            refine lv_aload_n hx hb d_Ai_longestWithin_43 rfl (lv_at hl 0 rfl) ?_
            refine va_get (ci := 0) (v := .ref (xAi 1)) (C := R_Ai) (T := F_Ai) (N := 3) hx hb hts i_Ai hown hK hP 0 rfl rfl 0 (by decide) (hts _ m_161) (fun _ h9 => h9) rfl d_Ai_longestWithin_44 ?_
            refine lv_iload hx hb d_Ai_longestWithin_47 (lv_at hl 5 rfl) ?_
            obtain ⟨hi_10, h⟩ := gb_i h
            refine va_iald hx hb hK hP 1 0 rfl rfl (inb_in hi_10) d_Ai_longestWithin_49 ?_
            obtain ⟨x_11, ex_11, h⟩ := letb_i h
            refine lv_topn ex_11 ?_
            refine lv_iload_n hx hb d_Ai_longestWithin_50 rfl (lv_at hl 2 rfl) ?_
            refine lv_icmp_gt (tgt := 58) hx hb d_Ai_longestWithin_51 (by decide) (fun c_12 => ?_) (fun c_12 => ?_)
            · rw [if_pos c_12] at h
              exact K58 v3_23 v4_23 v5_23 H locs ls hP hD hS (lv_sub hl [0, 1, 2, 3, 4, 5] rfl) h
            · rw [if_neg c_12] at h
              refine lv_iconst (v := 1) hx hb d_Ai_longestWithin_54 (by decide) ?_
              refine lv_goto (tgt := 59) hx hb d_Ai_longestWithin_55 (by decide) ?_
              exact K59 1 v3_23 v4_23 v5_23 H locs ls hP hD hS (lv_sub hl [0, 1, 2, 3, 4, 5] rfl) h
    exact K23 FU 0 0 0 H locs ls hP hD hS (lv_sub hl [3, 4, 5, 2, 1, 0] rfl) h
  · rw [if_neg c_1] at h
    cases h
abbrev rm_Ai_longestWithin_t : Room := { frames := 6, cells := 1, slots := 6, locals := 82 }
set_option maxRecDepth 100000 in
set_option maxHeartbeats 4000000 in
theorem c_Ai_longestWithin_t (l : Launch) (hltr : l.stackTraces = false) (D : va_G) (cI cZ cJ : ClassId) (xAi : Nat → Nat) (sz : Nat) (gAi : St) (p1 : Int32) (p2 : Int32) (E : String) (h : f_Ai_longestWithin gAi p1 p2 = some (.inr E)) : MT l y_Ai_longestWithin b_Ai_longestWithin 7 (some .int) rm_Ai_longestWithin_t D (TYS cI cZ cJ) [.ref (xAi 0), .int p1, .int p2] (wAi xAi cI cZ gAi) sz E := by
  refine mt_start (own := R_Ai) (by decide +kernel) rfl (Nat.le_of_ble_eq_true rfl) (fun p e s m args below meth c A ls C0 hAe hno hlk hP hD hS hl => ?_)
  obtain ⟨Q, hQ⟩ : ∃ Q, Q = QT below D (TYS cI cZ cJ) (wAi xAi cI cZ gAi) E args s := ⟨_, rfl⟩
  rw [← hQ]
  obtain ⟨hx, hb, -, hown, hts, hK, hE, -⟩ := id C0
  have hl : lv_has ls 7 [(0, .ref (xAi 0)), (1, .int p1), (2, .int p2)] := hl
  obtain ⟨H, hH⟩ : ∃ H, H = s.heap := ⟨_, rfl⟩
  have hP : va_P D vwCl (wAi xAi cI cZ gAi) H := by rw [hH]; exact hP
  have hS : va_S A s.heap H [] := by rw [hH]; exact hS
  rw [show W p l e rm_Ai_longestWithin_t s m args below meth c s.heap = W p l e rm_Ai_longestWithin_t s m args below meth c H by rw [hH]]
  generalize ([] : List Loc) = locs at hS ⊢
  unfold f_Ai_longestWithin at h
  refine lv_iload_n hx hb d_Ai_longestWithin_0 rfl (lv_at hl 1 rfl) ?_
  refine lv_iload_n hx hb d_Ai_longestWithin_1 rfl (lv_at hl 2 rfl) ?_
  refine lv_icmp_le (tgt := 15) hx hb d_Ai_longestWithin_2 (by decide) (fun c_1 => ?_) (fun c_1 => ?_)
  · rw [if_pos c_1] at h
    refine lv_iconst (v := 0) hx hb d_Ai_longestWithin_15 (by decide) ?_
    refine lv_istore_n (lv' := [(3, .int 0), (0, .ref (xAi 0)), (1, .int p1), (2, .int p2)]) hx hb d_Ai_longestWithin_16 rfl hl (by decide) rfl (fun ls hl => ?_)
    refine lv_iconst (v := 0) hx hb d_Ai_longestWithin_17 (by decide) ?_
    refine lv_istore (lv' := [(4, .int 0), (3, .int 0), (0, .ref (xAi 0)), (1, .int p1), (2, .int p2)]) hx hb d_Ai_longestWithin_18 hl (by decide) rfl (fun ls hl => ?_)
    refine lv_iconst (v := 0) hx hb d_Ai_longestWithin_20 (by decide) ?_
    refine lv_istore (lv' := [(5, .int 0), (4, .int 0), (3, .int 0), (0, .ref (xAi 0)), (1, .int p1), (2, .int p2)]) hx hb d_Ai_longestWithin_21 hl (by decide) rfl (fun ls hl => ?_)
    have K89 : ∀ (v3_89 : Int32) (v4_89 : Int32) (v5_89 : Int32) (H : Heap) (locs : List Loc) (ls : Array Slot), va_P D vwCl (wAi xAi cI cZ gAi) H → va_D A (wAi xAi cI cZ gAi) → va_S A s.heap H locs → lv_has ls 7 [(0, .ref (xAi 0)), (1, .int p1), (2, .int p2), (3, .int v3_89), (4, .int v4_89), (5, .int v5_89)] → f_Ai_longestWithin_X89 v3_89 v4_89 v5_89 = some (.inr E) → W p l e rm_Ai_longestWithin_t s m args below meth c H locs 0 0 Q (F0 m 89 ls []) := by
      intro v3_89 v4_89 v5_89 H locs ls hP hD hS hl h
      unfold f_Ai_longestWithin_X89 at h
      refine lv_iload_n hx hb d_Ai_longestWithin_89 rfl (lv_at hl 3 rfl) ?_
      cases h
    have K23 : ∀ (n : Nat) (v3_23 : Int32) (v4_23 : Int32) (v5_23 : Int32) (H : Heap) (locs : List Loc) (ls : Array Slot), va_P D vwCl (wAi xAi cI cZ gAi) H → va_D A (wAi xAi cI cZ gAi) → va_S A s.heap H locs → lv_has ls 7 [(0, .ref (xAi 0)), (1, .int p1), (2, .int p2), (3, .int v3_23), (4, .int v4_23), (5, .int v5_23)] → it3 (f_Ai_longestWithin_L23 gAi p1 p2) n v3_23 v4_23 v5_23 = some (.inr E) → W p l e rm_Ai_longestWithin_t s m args below meth c H locs 0 0 Q (F0 m 23 ls []) := by
      intro n
      induction n with
      | zero => intro v3_23 v4_23 v5_23 H locs ls hP hD hS hl h; exact (it3_0 h).elim
      | succ n ih =>
        intro v3_23 v4_23 v5_23 H locs ls hP hD hS hl h
        rw [it3_s, f_Ai_longestWithin_L23] at h
        generalize it3 (f_Ai_longestWithin_L23 gAi p1 p2) n = kc_23 at h ih
        refine lv_iload hx hb d_Ai_longestWithin_23 (lv_at hl 5 rfl) ?_
        refine lv_aload_n hx hb d_Ai_longestWithin_25 rfl (lv_at hl 0 rfl) ?_
        refine va_get (ci := 0) (v := .int (gAi 0 1)) (C := R_Ai) (T := F_Ai) (N := 3) hx hb hts i_Ai hown hK hP 0 rfl rfl 1 (by decide) (hts _ m_162) (fun _ h9 => h9) rfl d_Ai_longestWithin_26 ?_
        refine lv_icmp_ge (tgt := 89) hx hb d_Ai_longestWithin_29 (by decide) (fun c_2 => ?_) (fun c_2 => ?_)
        · rw [if_pos c_2] at h
          exact K89 v3_23 v4_23 v5_23 H locs ls hP hD hS (lv_sub hl [0, 1, 2, 3, 4, 5] rfl) h
        · rw [if_neg c_2] at h
          refine lv_aload_n hx hb d_Ai_longestWithin_32 rfl (lv_at hl 0 rfl) ?_
          refine va_get (ci := 0) (v := .ref (xAi 1)) (C := R_Ai) (T := F_Ai) (N := 3) hx hb hts i_Ai hown hK hP 0 rfl rfl 0 (by decide) (hts _ m_161) (fun _ h9 => h9) rfl d_Ai_longestWithin_33 ?_
          refine lv_iload hx hb d_Ai_longestWithin_36 (lv_at hl 5 rfl) ?_
          obtain ⟨hi_3, h⟩ := gb_i h
          refine va_iald hx hb hK hP 1 0 rfl rfl (inb_in hi_3) d_Ai_longestWithin_38 ?_
          obtain ⟨x_4, ex_4, h⟩ := letb_i h
          refine lv_topn ex_4 ?_
          refine lv_iload_n hx hb d_Ai_longestWithin_39 rfl (lv_at hl 1 rfl) ?_
          have K59 : ∀ (s0_59 : Int32) (v3_59 : Int32) (v4_59 : Int32) (v5_59 : Int32) (H : Heap) (locs : List Loc) (ls : Array Slot), va_P D vwCl (wAi xAi cI cZ gAi) H → va_D A (wAi xAi cI cZ gAi) → va_S A s.heap H locs → lv_has ls 7 [(0, .ref (xAi 0)), (1, .int p1), (2, .int p2), (3, .int v3_59), (4, .int v4_59), (5, .int v5_59)] → f_Ai_longestWithin_J59 kc_23 s0_59 v3_59 v4_59 v5_59 = some (.inr E) → W p l e rm_Ai_longestWithin_t s m args below meth c H locs 0 0 Q (F0 m 59 ls [.int s0_59]) := by
            intro s0_59 v3_59 v4_59 v5_59 H locs ls hP hD hS hl h
            unfold f_Ai_longestWithin_J59 at h
            refine lv_istore (lv' := [(6, .int s0_59), (0, .ref (xAi 0)), (1, .int p1), (2, .int p2), (3, .int v3_59), (4, .int v4_59), (5, .int v5_59)]) hx hb d_Ai_longestWithin_59 hl (by decide) rfl (fun ls hl => ?_)
            refine lv_iload hx hb d_Ai_longestWithin_61 (lv_at hl 0 rfl) ?_
            have K74 : ∀ (s0_74 : Int32) (v3_74 : Int32) (v4_74 : Int32) (v5_74 : Int32) (v6_74 : Int32) (H : Heap) (locs : List Loc) (ls : Array Slot), va_P D vwCl (wAi xAi cI cZ gAi) H → va_D A (wAi xAi cI cZ gAi) → va_S A s.heap H locs → lv_has ls 7 [(0, .ref (xAi 0)), (1, .int p1), (2, .int p2), (3, .int v3_74), (4, .int v4_74), (5, .int v5_74), (6, .int v6_74)] → f_Ai_longestWithin_J74 kc_23 s0_74 v3_74 v4_74 v5_74 v6_74 = some (.inr E) → W p l e rm_Ai_longestWithin_t s m args below meth c H locs 0 0 Q (F0 m 74 ls [.int s0_74]) := by
              intro s0_74 v3_74 v4_74 v5_74 v6_74 H locs ls hP hD hS hl h
              unfold f_Ai_longestWithin_J74 at h
              refine lv_istore (lv' := [(4, .int s0_74), (0, .ref (xAi 0)), (1, .int p1), (2, .int p2), (3, .int v3_74), (5, .int v5_74), (6, .int v6_74)]) hx hb d_Ai_longestWithin_74 hl (by decide) rfl (fun ls hl => ?_)
              refine lv_iload_n hx hb d_Ai_longestWithin_76 rfl (lv_at hl 4 rfl) ?_
              refine lv_iload hx hb d_Ai_longestWithin_77 (lv_at hl 0 rfl) ?_
              obtain ⟨r_5, hc_6, h⟩ := xv1_i h
              refine cSi (ws' := (wAi xAi cI cZ gAi)) (As := [.int v3_74, .int s0_74]) (rest := []) C0 hP hD hS hl.1 [] (c_Ma_max_r l D cI cZ cJ  H.size v3_74 s0_74 r_5 hc_6) k_Ma_max m_607 rfl rfl rfl (rp_same rfl) ⟨by decide, by decide⟩ ⟨rfl, rfl⟩ rfl (Nat.le_of_ble_eq_true rfl) d_Ai_longestWithin_79 ⟨Nat.zero_le _, Nat.zero_le _⟩ (fun H locs hP hD hS => ?_)
              refine lv_istore_n (lv' := [(3, .int r_5), (4, .int s0_74), (0, .ref (xAi 0)), (1, .int p1), (2, .int p2), (5, .int v5_74), (6, .int v6_74)]) hx hb d_Ai_longestWithin_82 rfl hl (by decide) rfl (fun ls hl => ?_)
              obtain ⟨x_7, ex_7, h⟩ := letb_i h
              refine lv_iinc (v := x_7) (lv' := [(5, .int x_7), (3, .int r_5), (4, .int s0_74), (0, .ref (xAi 0)), (1, .int p1), (2, .int p2), (6, .int v6_74)]) hx hb d_Ai_longestWithin_83 hl (k := 5) rfl (by rw [ex_7]; rfl) (by decide) rfl (fun ls hl => ?_)
              refine lv_goto (tgt := 23) hx hb d_Ai_longestWithin_86 (by decide) ?_
              exact ih r_5 s0_74 x_7 H locs ls hP hD hS (lv_sub hl [3, 4, 5, 1, 2, 0] rfl) h
            refine lv_if_eq (tgt := 73) hx hb d_Ai_longestWithin_63 (by decide) (fun c_8 => ?_) (fun c_8 => ?_)
            · rw [if_pos c_8] at h
              refine lv_iconst (v := 0) hx hb d_Ai_longestWithin_73 (by decide) ?_
              exact K74 0 v3_59 v4_59 v5_59 s0_59 H locs ls hP hD hS (lv_sub hl [1, 2, 3, 4, 5, 6, 0] rfl) h
            · rw [if_neg c_8] at h
              refine lv_iload hx hb d_Ai_longestWithin_66 (lv_at hl 5 rfl) ?_
              refine lv_iconst (v := 1) hx hb d_Ai_longestWithin_68 (by decide) ?_
              refine lv_iadd hx hb d_Ai_longestWithin_69 ?_
              refine lv_goto (tgt := 74) hx hb d_Ai_longestWithin_70 (by decide) ?_
              exact K74 (v4_59 + 1) v3_59 v4_59 v5_59 s0_59 H locs ls hP hD hS (lv_sub hl [1, 2, 3, 4, 5, 6, 0] rfl) h
          have K58 : ∀ (v3_58 : Int32) (v4_58 : Int32) (v5_58 : Int32) (H : Heap) (locs : List Loc) (ls : Array Slot), va_P D vwCl (wAi xAi cI cZ gAi) H → va_D A (wAi xAi cI cZ gAi) → va_S A s.heap H locs → lv_has ls 7 [(0, .ref (xAi 0)), (1, .int p1), (2, .int p2), (3, .int v3_58), (4, .int v4_58), (5, .int v5_58)] → f_Ai_longestWithin_J58 kc_23 v3_58 v4_58 v5_58 = some (.inr E) → W p l e rm_Ai_longestWithin_t s m args below meth c H locs 0 0 Q (F0 m 58 ls []) := by
            intro v3_58 v4_58 v5_58 H locs ls hP hD hS hl h
            unfold f_Ai_longestWithin_J58 at h
            refine lv_iconst (v := 0) hx hb d_Ai_longestWithin_58 (by decide) ?_
            exact K59 0 v3_58 v4_58 v5_58 H locs ls hP hD hS (lv_sub hl [0, 1, 2, 3, 4, 5] rfl) h
          refine lv_icmp_lt (tgt := 58) hx hb d_Ai_longestWithin_40 (by decide) (fun c_9 => ?_) (fun c_9 => ?_)
          · rw [if_pos c_9] at h
            exact K58 v3_23 v4_23 v5_23 H locs ls hP hD hS (lv_sub hl [0, 1, 2, 3, 4, 5] rfl) h
          · rw [if_neg c_9] at h
            refine lv_aload_n hx hb d_Ai_longestWithin_43 rfl (lv_at hl 0 rfl) ?_
            refine va_get (ci := 0) (v := .ref (xAi 1)) (C := R_Ai) (T := F_Ai) (N := 3) hx hb hts i_Ai hown hK hP 0 rfl rfl 0 (by decide) (hts _ m_161) (fun _ h9 => h9) rfl d_Ai_longestWithin_44 ?_
            refine lv_iload hx hb d_Ai_longestWithin_47 (lv_at hl 5 rfl) ?_
            obtain ⟨hi_10, h⟩ := gb_i h
            refine va_iald hx hb hK hP 1 0 rfl rfl (inb_in hi_10) d_Ai_longestWithin_49 ?_
            obtain ⟨x_11, ex_11, h⟩ := letb_i h
            refine lv_topn ex_11 ?_
            refine lv_iload_n hx hb d_Ai_longestWithin_50 rfl (lv_at hl 2 rfl) ?_
            refine lv_icmp_gt (tgt := 58) hx hb d_Ai_longestWithin_51 (by decide) (fun c_12 => ?_) (fun c_12 => ?_)
            · rw [if_pos c_12] at h
              exact K58 v3_23 v4_23 v5_23 H locs ls hP hD hS (lv_sub hl [0, 1, 2, 3, 4, 5] rfl) h
            · rw [if_neg c_12] at h
              refine lv_iconst (v := 1) hx hb d_Ai_longestWithin_54 (by decide) ?_
              refine lv_goto (tgt := 59) hx hb d_Ai_longestWithin_55 (by decide) ?_
              exact K59 1 v3_23 v4_23 v5_23 H locs ls hP hD hS (lv_sub hl [0, 1, 2, 3, 4, 5] rfl) h
    exact K23 FU 0 0 0 H locs ls hP hD hS (lv_sub hl [3, 4, 5, 2, 1, 0] rfl) h
  · rw [if_neg c_1] at h
    cases h
    rw [hQ]
    exact x_new C0 hAe hltr hno hlk hP hD hS hl.1 t_Ai_44 d_Ai_longestWithin_5 d_Ai_longestWithin_8 d_Ai_longestWithin_9 d_Ai_longestWithin_11 d_Ai_longestWithin_14 ⟨by decide, Nat.le_of_ble_eq_true rfl, by decide, by decide⟩
