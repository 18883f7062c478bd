abbrev rm_Fo_addRow_r : Room := { frames := 1, cells := 0, slots := 0, locals := 22 }
set_option maxRecDepth 100000 in
set_option maxHeartbeats 4000000 in
theorem c_Fo_addRow_r (l : Launch) (D : va_G) (cI cZ cJ : ClassId) (xFo : Nat → Nat) (sz : Nat) (gFo : St) (p1 : Int32) (p2 : Int32) (r : Int32) (gFo1 : St) (h : f_Fo_addRow gFo p1 p2 = some (.inl (r, gFo1))) : MI l y_Fo_addRow b_Fo_addRow 6 (some .int) rm_Fo_addRow_r D (TYS cI cZ cJ) [.ref (xFo 0), .int p1, .int p2] (wFo xFo cI cZ gFo) sz r (wFo xFo cI cZ gFo1) := by
  refine mi_start (own := R_Fo) (by decide +kernel) rfl (Nat.le_of_ble_eq_true rfl) (fun p e s m args below meth c A ls C0 hr hlk hP hD hS hl => ?_)
  obtain ⟨Q, hQ⟩ : ∃ Q, Q = QI below D (TYS cI cZ cJ) A (wFo xFo cI cZ gFo1) r args s := ⟨_, rfl⟩
  rw [← hQ]
  obtain ⟨hx, hb, -, hown, hts, hK, hE, -⟩ := id C0
  have hl : lv_has ls 6 [(0, .ref (xFo 0)), (1, .int p1), (2, .int p2)] := hl
  obtain ⟨H, hH⟩ : ∃ H, H = s.heap := ⟨_, rfl⟩
  have hP : va_P D vwCl (wFo xFo cI cZ gFo) H := by rw [hH]; exact hP
  have hS : va_S A s.heap H [] := by rw [hH]; exact hS
  rw [show W p l e rm_Fo_addRow_r s m args below meth c s.heap = W p l e rm_Fo_addRow_r s m args below meth c H by rw [hH]]
  generalize ([] : List Loc) = locs at hS ⊢
  unfold f_Fo_addRow at h
  refine lv_iload_n hx hb d_Fo_addRow_0 rfl (lv_at hl 1 rfl) ?_
  refine lv_iconst (v := 4) hx hb d_Fo_addRow_1 (by decide) ?_
  obtain ⟨hc_1, h⟩ | ⟨E9, hc_1, h⟩ := xc0_i h
  rotate_left
  · cases h
  refine cNv (ws' := (wFo xFo cI cZ gFo)) (As := [.int p1, .int 4]) (rest := []) C0 hP hD hS hl.1 [] (c_Cc_requireIndex_r l D cI cZ cJ  H.size p1 4 hc_1) k_Cc_requireIndex (List.mem_of_getElem? (i := 3) rfl) rfl rfl rfl (rp_same rfl) ⟨by decide, by decide⟩ ⟨rfl, rfl⟩ rfl (Nat.le_of_ble_eq_true rfl) d_Fo_addRow_2 ⟨Nat.zero_le _, Nat.zero_le _⟩ (fun H locs hP hD hS => ?_)
  refine lv_aload_n hx hb d_Fo_addRow_5 rfl (lv_at hl 0 rfl) ?_
  refine va_get (ci := 1) (v := .ref (xFo 1)) (C := R_Fo) (T := F_Fo) (N := 5) hx hb hts i_Fo hown hK hP 0 rfl rfl 0 (by decide) (hts _ m_84) (fun _ h9 => h9) rfl d_Fo_addRow_6 ?_
  refine lv_iload_n hx hb d_Fo_addRow_9 rfl (lv_at hl 1 rfl) ?_
  obtain ⟨hi_2, h⟩ := gb_i h
  refine va_iald hx hb hK hP 1 0 rfl rfl (inb_in hi_2) d_Fo_addRow_10 ?_
  obtain ⟨x_3, ex_3, h⟩ := letb_i h
  refine lv_topn ex_3 ?_
  refine lv_istore_n (lv' := [(3, .int x_3), (0, .ref (xFo 0)), (1, .int p1), (2, .int p2)]) hx hb d_Fo_addRow_11 rfl hl (by decide) rfl (fun ls hl => ?_)
  refine lv_iload_n hx hb d_Fo_addRow_12 rfl (lv_at hl 0 rfl) ?_
  refine lv_bipush (v := 8) hx hb d_Fo_addRow_13 (by decide) ?_
  obtain ⟨hc_4, h⟩ | ⟨E9, hc_4, h⟩ := xc0_i h
  rotate_left
  · cases h
  refine cNv (ws' := (wFo xFo cI cZ gFo)) (As := [.int x_3, .int 8]) (rest := []) C0 hP hD hS hl.1 [] (c_Cc_requireRoom_r l D cI cZ cJ  H.size x_3 8 hc_4) k_Cc_requireRoom (List.mem_of_getElem? (i := 4) rfl) rfl rfl rfl (rp_same rfl) ⟨by decide, by decide⟩ ⟨rfl, rfl⟩ rfl (Nat.le_of_ble_eq_true rfl) d_Fo_addRow_15 ⟨Nat.zero_le _, Nat.zero_le _⟩ (fun H locs hP hD hS => ?_)
  refine lv_iload_n hx hb d_Fo_addRow_18 rfl (lv_at hl 2 rfl) ?_
  refine lv_bipush (v := 8) hx hb d_Fo_addRow_19 (by decide) ?_
  refine lv_imul hx hb d_Fo_addRow_21 ?_
  refine lv_iload_n hx hb d_Fo_addRow_22 rfl (lv_at hl 0 rfl) ?_
  refine lv_iadd hx hb d_Fo_addRow_23 ?_
  obtain ⟨x_5, ex_5, h⟩ := letb_i h
  refine lv_topn ex_5 ?_
  refine lv_istore (lv' := [(4, .int x_5), (3, .int x_3), (0, .ref (xFo 0)), (1, .int p1), (2, .int p2)]) hx hb d_Fo_addRow_24 hl (by decide) rfl (fun ls hl => ?_)
  refine lv_iload_n hx hb d_Fo_addRow_26 rfl (lv_at hl 1 rfl) ?_
  have K43 : ∀ (s0_43 : Int32) (v3_43 : Int32) (v4_43 : Int32) (H : Heap) (locs : List Loc) (ls : Array Slot), va_P D vwCl (wFo xFo cI cZ gFo) H → va_D A (wFo xFo cI cZ gFo) → va_S A s.heap H locs → lv_has ls 6 [(0, .ref (xFo 0)), (1, .int p1), (2, .int p2), (3, .int v3_43), (4, .int v4_43)] → f_Fo_addRow_J43 gFo p1 p2 s0_43 v3_43 v4_43 = some (.inl (r, gFo1)) → W p l e rm_Fo_addRow_r s m args below meth c H locs 0 0 Q (F0 m 43 ls [.int s0_43]) := by
    intro s0_43 v3_43 v4_43 H locs ls hP hD hS hl h
    unfold f_Fo_addRow_J43 at h
    refine lv_istore (lv' := [(5, .int s0_43), (0, .ref (xFo 0)), (1, .int p1), (2, .int p2), (3, .int v3_43), (4, .int v4_43)]) hx hb d_Fo_addRow_43 hl (by decide) rfl (fun ls hl => ?_)
    refine lv_iload_n hx hb d_Fo_addRow_45 rfl (lv_at hl 3 rfl) ?_
    refine lv_iload hx hb d_Fo_addRow_46 (lv_at hl 0 rfl) ?_
    refine lv_iconst (v := 1) hx hb d_Fo_addRow_48 (by decide) ?_
    refine lv_iadd hx hb d_Fo_addRow_49 ?_
    refine lv_sipush (v := 500) hx hb d_Fo_addRow_50 (by decide) ?_
    obtain ⟨hc_6, h⟩ | ⟨E9, hc_6, h⟩ := xc0_i h
    rotate_left
    · cases h
    refine cNv (ws' := (wFo xFo cI cZ gFo)) (As := [.int p2, .int (s0_43 + 1), .int 500]) (rest := []) C0 hP hD hS hl.1 [] (c_Cc_requireRange_r l D cI cZ cJ  H.size p2 (s0_43 + 1) 500 hc_6) k_Cc_requireRange (List.mem_of_getElem? (i := 5) rfl) rfl rfl rfl (rp_same rfl) ⟨by decide, by decide⟩ ⟨rfl, rfl⟩ rfl (Nat.le_of_ble_eq_true rfl) d_Fo_addRow_53 ⟨Nat.zero_le _, Nat.zero_le _⟩ (fun H locs hP hD hS => ?_)
    refine lv_aload_n hx hb d_Fo_addRow_56 rfl (lv_at hl 1 rfl) ?_
    refine va_get (ci := 1) (v := .ref (xFo 2)) (C := R_Fo) (T := F_Fo) (N := 5) hx hb hts i_Fo hown hK hP 0 rfl rfl 1 (by decide) (hts _ m_85) (fun _ h9 => h9) rfl d_Fo_addRow_57 ?_
    refine lv_iload hx hb d_Fo_addRow_60 (lv_at hl 5 rfl) ?_
    refine lv_iload_n hx hb d_Fo_addRow_62 rfl (lv_at hl 3 rfl) ?_
    obtain ⟨hi_7, h⟩ := gb_i h
    refine va_iast hx hb hK hP hD hS 2 0 rfl rfl (inb_in hi_7) d_Fo_addRow_63 (fun H locs hP hD hS => ?_)
    obtain ⟨gFo_8, egFo_8, h⟩ := letb_i h
    have hP : va_P D vwCl (wFo xFo cI cZ gFo_8) H := by rw [egFo_8, u_Fo_2]; exact hP
    have hD : va_D A (wFo xFo cI cZ gFo_8) := by rw [egFo_8, u_Fo_2]; exact hD
    refine lv_aload_n hx hb d_Fo_addRow_64 rfl (lv_at hl 1 rfl) ?_
    refine va_get (ci := 1) (v := .ref (xFo 1)) (C := R_Fo) (T := F_Fo) (N := 5) hx hb hts i_Fo hown hK hP 0 rfl rfl 0 (by decide) (hts _ m_84) (fun _ h9 => h9) rfl d_Fo_addRow_65 ?_
    refine lv_iload_n hx hb d_Fo_addRow_68 rfl (lv_at hl 2 rfl) ?_
    refine lv_iload_n hx hb d_Fo_addRow_69 rfl (lv_at hl 4 rfl) ?_
    refine lv_iconst (v := 1) hx hb d_Fo_addRow_70 (by decide) ?_
    refine lv_iadd hx hb d_Fo_addRow_71 ?_
    obtain ⟨hi_9, h⟩ := gb_i h
    refine va_iast hx hb hK hP hD hS 1 0 rfl rfl (inb_in hi_9) d_Fo_addRow_72 (fun H locs hP hD hS => ?_)
    obtain ⟨gFo_10, egFo_10, h⟩ := letb_i h
    have hP : va_P D vwCl (wFo xFo cI cZ gFo_10) H := by rw [egFo_10, u_Fo_1]; exact hP
    have hD : va_D A (wFo xFo cI cZ gFo_10) := by rw [egFo_10, u_Fo_1]; exact hD
    refine lv_iload_n hx hb d_Fo_addRow_73 rfl (lv_at hl 4 rfl) ?_
    cases h
    rw [hQ]
    exact mi_ret C0 hr rfl hlk hP hD hS d_Fo_addRow_74
  refine lv_if_ne (tgt := 34) hx hb d_Fo_addRow_27 (by decide) (fun c_11 => ?_) (fun c_11 => ?_)
  · rw [if_neg c_11] at h
    refine lv_aload_n hx hb d_Fo_addRow_34 rfl (lv_at hl 2 rfl) ?_
    refine va_get (ci := 1) (v := .ref (xFo 2)) (C := R_Fo) (T := F_Fo) (N := 5) hx hb hts i_Fo hown hK hP 0 rfl rfl 1 (by decide) (hts _ m_85) (fun _ h9 => h9) rfl d_Fo_addRow_35 ?_
    refine lv_iload hx hb d_Fo_addRow_38 (lv_at hl 0 rfl) ?_
    refine lv_iconst (v := 1) hx hb d_Fo_addRow_40 (by decide) ?_
    refine lv_isub hx hb d_Fo_addRow_41 ?_
    obtain ⟨hi_12, h⟩ := gb_i h
    refine va_iald hx hb hK hP 2 0 rfl rfl (inb_in hi_12) d_Fo_addRow_42 ?_
    obtain ⟨x_13, ex_13, h⟩ := letb_i h
    refine lv_topn ex_13 ?_
    exact K43 x_13 x_3 x_5 H locs ls hP hD hS (lv_sub hl [2, 3, 4, 1, 0] rfl) h
  · rw [if_pos c_11] at h
    refine lv_iconst (v := 0) hx hb d_Fo_addRow_30 (by decide) ?_
    refine lv_goto (tgt := 43) hx hb d_Fo_addRow_31 (by decide) ?_
    exact K43 0 x_3 x_5 H locs ls hP hD hS (lv_sub hl [2, 3, 4, 1, 0] rfl) h
abbrev rm_Fo_addRow_t : Room := { frames := 7, cells := 1, slots := 6, locals := 104 }
set_option maxRecDepth 100000 in
set_option maxHeartbeats 4000000 in
theorem c_Fo_addRow_t (l : Launch) (hltr : l.stackTraces = false) (D : va_G) (cI cZ cJ : ClassId) (xFo : Nat → Nat) (sz : Nat) (gFo : St) (p1 : Int32) (p2 : Int32) (E : String) (h : f_Fo_addRow gFo p1 p2 = some (.inr E)) : MT l y_Fo_addRow b_Fo_addRow 6 (some .int) rm_Fo_addRow_t D (TYS cI cZ cJ) [.ref (xFo 0), .int p1, .int p2] (wFo xFo cI cZ gFo) sz E := by
  refine mt_start (own := R_Fo) (by decide +kernel) rfl (Nat.le_of_ble_eq_true rfl) (fun p e s m args below meth c A ls C0 hAe hno hlk hP hD hS hl => ?_)
  obtain ⟨Q, hQ⟩ : ∃ Q, Q = QT below D (TYS cI cZ cJ) (wFo xFo cI cZ gFo) E args s := ⟨_, rfl⟩
  rw [← hQ]
  obtain ⟨hx, hb, -, hown, hts, hK, hE, -⟩ := id C0
  have hl : lv_has ls 6 [(0, .ref (xFo 0)), (1, .int p1), (2, .int p2)] := hl
  obtain ⟨H, hH⟩ : ∃ H, H = s.heap := ⟨_, rfl⟩
  have hP : va_P D vwCl (wFo xFo cI cZ gFo) H := by rw [hH]; exact hP
  have hS : va_S A s.heap H [] := by rw [hH]; exact hS
  rw [show W p l e rm_Fo_addRow_t s m args below meth c s.heap = W p l e rm_Fo_addRow_t s m args below meth c H by rw [hH]]
  generalize ([] : List Loc) = locs at hS ⊢
  unfold f_Fo_addRow at h
  refine lv_iload_n hx hb d_Fo_addRow_0 rfl (lv_at hl 1 rfl) ?_
  refine lv_iconst (v := 4) hx hb d_Fo_addRow_1 (by decide) ?_
  obtain ⟨hc_1, h⟩ | ⟨E9, hc_1, h⟩ := xc0_i h
  rotate_left
  · cases h
    rw [hQ]
    exact x_out C0 hAe hno hlk hP hD hS [] rfl rfl rfl (rN (As := [.int p1, .int 4]) (rest := []) C0 hP hD hS hl.1 [] (c_Cc_requireIndex_t l hltr D cI cZ cJ  H.size p1 4 E hc_1) k_Cc_requireIndex (List.mem_of_getElem? (i := 3) rfl) rfl rfl ⟨by decide, by decide⟩ ⟨rfl, rfl⟩ rfl (Nat.le_of_ble_eq_true rfl) d_Fo_addRow_2 ⟨by decide, by decide⟩) ⟨rfl, rfl⟩
  refine cNv (ws' := (wFo xFo cI cZ gFo)) (As := [.int p1, .int 4]) (rest := []) C0 hP hD hS hl.1 [] (c_Cc_requireIndex_r l D cI cZ cJ  H.size p1 4 hc_1) k_Cc_requireIndex (List.mem_of_getElem? (i := 3) rfl) rfl rfl rfl (rp_same rfl) ⟨by decide, by decide⟩ ⟨rfl, rfl⟩ rfl (Nat.le_of_ble_eq_true rfl) d_Fo_addRow_2 ⟨Nat.zero_le _, Nat.zero_le _⟩ (fun H locs hP hD hS => ?_)
  refine lv_aload_n hx hb d_Fo_addRow_5 rfl (lv_at hl 0 rfl) ?_
  refine va_get (ci := 1) (v := .ref (xFo 1)) (C := R_Fo) (T := F_Fo) (N := 5) hx hb hts i_Fo hown hK hP 0 rfl rfl 0 (by decide) (hts _ m_84) (fun _ h9 => h9) rfl d_Fo_addRow_6 ?_
  refine lv_iload_n hx hb d_Fo_addRow_9 rfl (lv_at hl 1 rfl) ?_
  obtain ⟨hi_2, h⟩ := gb_i h
  refine va_iald hx hb hK hP 1 0 rfl rfl (inb_in hi_2) d_Fo_addRow_10 ?_
  obtain ⟨x_3, ex_3, h⟩ := letb_i h
  refine lv_topn ex_3 ?_
  refine lv_istore_n (lv' := [(3, .int x_3), (0, .ref (xFo 0)), (1, .int p1), (2, .int p2)]) hx hb d_Fo_addRow_11 rfl hl (by decide) rfl (fun ls hl => ?_)
  refine lv_iload_n hx hb d_Fo_addRow_12 rfl (lv_at hl 0 rfl) ?_
  refine lv_bipush (v := 8) hx hb d_Fo_addRow_13 (by decide) ?_
  obtain ⟨hc_4, h⟩ | ⟨E9, hc_4, h⟩ := xc0_i h
  rotate_left
  · cases h
    rw [hQ]
    exact x_out C0 hAe hno hlk hP hD hS [] rfl rfl rfl (rN (As := [.int x_3, .int 8]) (rest := []) C0 hP hD hS hl.1 [] (c_Cc_requireRoom_t l hltr D cI cZ cJ  H.size x_3 8 E hc_4) k_Cc_requireRoom (List.mem_of_getElem? (i := 4) rfl) rfl rfl ⟨by decide, by decide⟩ ⟨rfl, rfl⟩ rfl (Nat.le_of_ble_eq_true rfl) d_Fo_addRow_15 ⟨by decide, by decide⟩) ⟨rfl, rfl⟩
  refine cNv (ws' := (wFo xFo cI cZ gFo)) (As := [.int x_3, .int 8]) (rest := []) C0 hP hD hS hl.1 [] (c_Cc_requireRoom_r l D cI cZ cJ  H.size x_3 8 hc_4) k_Cc_requireRoom (List.mem_of_getElem? (i := 4) rfl) rfl rfl rfl (rp_same rfl) ⟨by decide, by decide⟩ ⟨rfl, rfl⟩ rfl (Nat.le_of_ble_eq_true rfl) d_Fo_addRow_15 ⟨Nat.zero_le _, Nat.zero_le _⟩ (fun H locs hP hD hS => ?_)
  refine lv_iload_n hx hb d_Fo_addRow_18 rfl (lv_at hl 2 rfl) ?_
  refine lv_bipush (v := 8) hx hb d_Fo_addRow_19 (by decide) ?_
  refine lv_imul hx hb d_Fo_addRow_21 ?_
  refine lv_iload_n hx hb d_Fo_addRow_22 rfl (lv_at hl 0 rfl) ?_
  refine lv_iadd hx hb d_Fo_addRow_23 ?_
  obtain ⟨x_5, ex_5, h⟩ := letb_i h
  refine lv_topn ex_5 ?_
  refine lv_istore (lv' := [(4, .int x_5), (3, .int x_3), (0, .ref (xFo 0)), (1, .int p1), (2, .int p2)]) hx hb d_Fo_addRow_24 hl (by decide) rfl (fun ls hl => ?_)
  refine lv_iload_n hx hb d_Fo_addRow_26 rfl (lv_at hl 1 rfl) ?_
  have K43 : ∀ (s0_43 : Int32) (v3_43 : Int32) (v4_43 : Int32) (H : Heap) (locs : List Loc) (ls : Array Slot), va_P D vwCl (wFo xFo cI cZ gFo) H → va_D A (wFo xFo cI cZ gFo) → va_S A s.heap H locs → lv_has ls 6 [(0, .ref (xFo 0)), (1, .int p1), (2, .int p2), (3, .int v3_43), (4, .int v4_43)] → f_Fo_addRow_J43 gFo p1 p2 s0_43 v3_43 v4_43 = some (.inr E) → W p l e rm_Fo_addRow_t s m args below meth c H locs 0 0 Q (F0 m 43 ls [.int s0_43]) := by
    intro s0_43 v3_43 v4_43 H locs ls hP hD hS hl h
    unfold f_Fo_addRow_J43 at h
    refine lv_istore (lv' := [(5, .int s0_43), (0, .ref (xFo 0)), (1, .int p1), (2, .int p2), (3, .int v3_43), (4, .int v4_43)]) hx hb d_Fo_addRow_43 hl (by decide) rfl (fun ls hl => ?_)
    refine lv_iload_n hx hb d_Fo_addRow_45 rfl (lv_at hl 3 rfl) ?_
    refine lv_iload hx hb d_Fo_addRow_46 (lv_at hl 0 rfl) ?_
    refine lv_iconst (v := 1) hx hb d_Fo_addRow_48 (by decide) ?_
    refine lv_iadd hx hb d_Fo_addRow_49 ?_
    refine lv_sipush (v := 500) hx hb d_Fo_addRow_50 (by decide) ?_
    obtain ⟨hc_6, h⟩ | ⟨E9, hc_6, h⟩ := xc0_i h
    rotate_left
    · cases h
      rw [hQ]
      exact x_out C0 hAe hno hlk hP hD hS [] rfl rfl rfl (rN (As := [.int p2, .int (s0_43 + 1), .int 500]) (rest := []) C0 hP hD hS hl.1 [] (c_Cc_requireRange_t l hltr D cI cZ cJ  H.size p2 (s0_43 + 1) 500 E hc_6) k_Cc_requireRange (List.mem_of_getElem? (i := 5) rfl) rfl rfl ⟨by decide, by decide⟩ ⟨rfl, rfl⟩ rfl (Nat.le_of_ble_eq_true rfl) d_Fo_addRow_53 ⟨by decide, by decide⟩) ⟨rfl, rfl⟩
    refine cNv (ws' := (wFo xFo cI cZ gFo)) (As := [.int p2, .int (s0_43 + 1), .int 500]) (rest := []) C0 hP hD hS hl.1 [] (c_Cc_requireRange_r l D cI cZ cJ  H.size p2 (s0_43 + 1) 500 hc_6) k_Cc_requireRange (List.mem_of_getElem? (i := 5) rfl) rfl rfl rfl (rp_same rfl) ⟨by decide, by decide⟩ ⟨rfl, rfl⟩ rfl (Nat.le_of_ble_eq_true rfl) d_Fo_addRow_53 ⟨Nat.zero_le _, Nat.zero_le _⟩ (fun H locs hP hD hS => ?_)
    refine lv_aload_n hx hb d_Fo_addRow_56 rfl (lv_at hl 1 rfl) ?_
    refine va_get (ci := 1) (v := .ref (xFo 2)) (C := R_Fo) (T := F_Fo) (N := 5) hx hb hts i_Fo hown hK hP 0 rfl rfl 1 (by decide) (hts _ m_85) (fun _ h9 => h9) rfl d_Fo_addRow_57 ?_
    refine lv_iload hx hb d_Fo_addRow_60 (lv_at hl 5 rfl) ?_
    refine lv_iload_n hx hb d_Fo_addRow_62 rfl (lv_at hl 3 rfl) ?_
    obtain ⟨hi_7, h⟩ := gb_i h
    refine va_iast hx hb hK hP hD hS 2 0 rfl rfl (inb_in hi_7) d_Fo_addRow_63 (fun H locs hP hD hS => ?_)
    obtain ⟨gFo_8, egFo_8, h⟩ := letb_i h
    have hP : va_P D vwCl (wFo xFo cI cZ gFo_8) H := by rw [egFo_8, u_Fo_2]; exact hP
    have hD : va_D A (wFo xFo cI cZ gFo_8) := by rw [egFo_8, u_Fo_2]; exact hD
    refine lv_aload_n hx hb d_Fo_addRow_64 rfl (lv_at hl 1 rfl) ?_
    refine va_get (ci := 1) (v := .ref (xFo 1)) (C := R_Fo) (T := F_Fo) (N := 5) hx hb hts i_Fo hown hK hP 0 rfl rfl 0 (by decide) (hts _ m_84) (fun _ h9 => h9) rfl d_Fo_addRow_65 ?_
    refine lv_iload_n hx hb d_Fo_addRow_68 rfl (lv_at hl 2 rfl) ?_
    refine lv_iload_n hx hb d_Fo_addRow_69 rfl (lv_at hl 4 rfl) ?_
    refine lv_iconst (v := 1) hx hb d_Fo_addRow_70 (by decide) ?_
    refine lv_iadd hx hb d_Fo_addRow_71 ?_
    obtain ⟨hi_9, h⟩ := gb_i h
    refine va_iast hx hb hK hP hD hS 1 0 rfl rfl (inb_in hi_9) d_Fo_addRow_72 (fun H locs hP hD hS => ?_)
    obtain ⟨gFo_10, egFo_10, h⟩ := letb_i h
    have hP : va_P D vwCl (wFo xFo cI cZ gFo_10) H := by rw [egFo_10, u_Fo_1]; exact hP
    have hD : va_D A (wFo xFo cI cZ gFo_10) := by rw [egFo_10, u_Fo_1]; exact hD
    refine lv_iload_n hx hb d_Fo_addRow_73 rfl (lv_at hl 4 rfl) ?_
    cases h
  refine lv_if_ne (tgt := 34) hx hb d_Fo_addRow_27 (by decide) (fun c_11 => ?_) (fun c_11 => ?_)
  · rw [if_neg c_11] at h
    refine lv_aload_n hx hb d_Fo_addRow_34 rfl (lv_at hl 2 rfl) ?_
    refine va_get (ci := 1) (v := .ref (xFo 2)) (C := R_Fo) (T := F_Fo) (N := 5) hx hb hts i_Fo hown hK hP 0 rfl rfl 1 (by decide) (hts _ m_85) (fun _ h9 => h9) rfl d_Fo_addRow_35 ?_
    refine lv_iload hx hb d_Fo_addRow_38 (lv_at hl 0 rfl) ?_
    refine lv_iconst (v := 1) hx hb d_Fo_addRow_40 (by decide) ?_
    refine lv_isub hx hb d_Fo_addRow_41 ?_
    obtain ⟨hi_12, h⟩ := gb_i h
    refine va_iald hx hb hK hP 2 0 rfl rfl (inb_in hi_12) d_Fo_addRow_42 ?_
    obtain ⟨x_13, ex_13, h⟩ := letb_i h
    refine lv_topn ex_13 ?_
    exact K43 x_13 x_3 x_5 H locs ls hP hD hS (lv_sub hl [2, 3, 4, 1, 0] rfl) h
  · rw [if_pos c_11] at h
    refine lv_iconst (v := 0) hx hb d_Fo_addRow_30 (by decide) ?_
    refine lv_goto (tgt := 43) hx hb d_Fo_addRow_31 (by decide) ?_
    exact K43 0 x_3 x_5 H locs ls hP hD hS (lv_sub hl [2, 3, 4, 1, 0] rfl) h
abbrev rm_Fo_placeOf_r : Room := { frames := 1, cells := 0, slots := 0, locals := 21 }
set_option maxRecDepth 100000 in
set_option maxHeartbeats 4000000 in
theorem c_Fo_placeOf_r (l : Launch) (D : va_G) (cI cZ cJ : ClassId) (xFo : Nat → Nat) (sz : Nat) (gFo : St) (p1 : Int32) (p2 : Int32) (r : Int32) (h : f_Fo_placeOf gFo p1 p2 = some (.inl r)) : MI l y_Fo_placeOf b_Fo_placeOf 3 (some .int) rm_Fo_placeOf_r D (TYS cI cZ cJ) [.ref (xFo 0), .int p1, .int p2] (wFo xFo cI cZ gFo) sz r (wFo xFo cI cZ gFo) := by
  refine mi_start (own := R_Fo) (by decide +kernel) rfl (Nat.le_of_ble_eq_true rfl) (fun p e s m args below meth c A ls C0 hr hlk hP hD hS hl => ?_)
  obtain ⟨Q, hQ⟩ : ∃ Q, Q = QI below D (TYS cI cZ cJ) A (wFo xFo cI cZ gFo) r args s := ⟨_, rfl⟩
  rw [← hQ]
  obtain ⟨hx, hb, -, hown, hts, hK, hE, -⟩ := id C0
  have hl : lv_has ls 3 [(0, .ref (xFo 0)), (1, .int p1), (2, .int p2)] := hl
  obtain ⟨H, hH⟩ : ∃ H, H = s.heap := ⟨_, rfl⟩
  have hP : va_P D vwCl (wFo xFo cI cZ gFo) H := by rw [hH]; exact hP
  have hS : va_S A s.heap H [] := by rw [hH]; exact hS
  rw [show W p l e rm_Fo_placeOf_r s m args below meth c s.heap = W p l e rm_Fo_placeOf_r s m args below meth c H by rw [hH]]
  generalize ([] : List Loc) = locs at hS ⊢
  unfold f_Fo_placeOf at h
  refine lv_iload_n hx hb d_Fo_placeOf_0 rfl (lv_at hl 1 rfl) ?_
  refine lv_iconst (v := 4) hx hb d_Fo_placeOf_1 (by decide) ?_
  obtain ⟨hc_1, h⟩ | ⟨E9, hc_1, h⟩ := xc0_i h
  rotate_left
  · cases h
  refine cNv (ws' := (wFo xFo cI cZ gFo)) (As := [.int p1, .int 4]) (rest := []) C0 hP hD hS hl.1 [] (c_Cc_requireIndex_r l D cI cZ cJ  H.size p1 4 hc_1) k_Cc_requireIndex (List.mem_of_getElem? (i := 3) rfl) rfl rfl rfl (rp_same rfl) ⟨by decide, by decide⟩ ⟨rfl, rfl⟩ rfl (Nat.le_of_ble_eq_true rfl) d_Fo_placeOf_2 ⟨Nat.zero_le _, Nat.zero_le _⟩ (fun H locs hP hD hS => ?_)
  refine lv_iload_n hx hb d_Fo_placeOf_5 rfl (lv_at hl 2 rfl) ?_
  refine lv_aload_n hx hb d_Fo_placeOf_6 rfl (lv_at hl 0 rfl) ?_
  refine va_get (ci := 1) (v := .ref (xFo 1)) (C := R_Fo) (T := F_Fo) (N := 5) hx hb hts i_Fo hown hK hP 0 rfl rfl 0 (by decide) (hts _ m_84) (fun _ h9 => h9) rfl d_Fo_placeOf_7 ?_
  refine lv_iload_n hx hb d_Fo_placeOf_10 rfl (lv_at hl 1 rfl) ?_
  obtain ⟨hi_2, h⟩ := gb_i h
  refine va_iald hx hb hK hP 1 0 rfl rfl (inb_in hi_2) d_Fo_placeOf_11 ?_
  obtain ⟨x_3, ex_3, h⟩ := letb_i h
  refine lv_topn ex_3 ?_
  obtain ⟨hc_4, h⟩ | ⟨E9, hc_4, h⟩ := xc0_i h
  rotate_left
  · cases h
  refine cNv (ws' := (wFo xFo cI cZ gFo)) (As := [.int p2, .int x_3]) (rest := []) C0 hP hD hS hl.1 [] (c_Cc_requireIndex_r l D cI cZ cJ  H.size p2 x_3 hc_4) k_Cc_requireIndex (List.mem_of_getElem? (i := 3) rfl) rfl rfl rfl (rp_same rfl) ⟨by decide, by decide⟩ ⟨rfl, rfl⟩ rfl (Nat.le_of_ble_eq_true rfl) d_Fo_placeOf_12 ⟨Nat.zero_le _, Nat.zero_le _⟩ (fun H locs hP hD hS => ?_)
  refine lv_iload_n hx hb d_Fo_placeOf_15 rfl (lv_at hl 1 rfl) ?_
  refine lv_bipush (v := 8) hx hb d_Fo_placeOf_16 (by decide) ?_
  refine lv_imul hx hb d_Fo_placeOf_18 ?_
  refine lv_iload_n hx hb d_Fo_placeOf_19 rfl (lv_at hl 2 rfl) ?_
  refine lv_iadd hx hb d_Fo_placeOf_20 ?_
  cases h
  rw [hQ]
  exact mi_ret C0 hr rfl hlk hP hD hS d_Fo_placeOf_21
abbrev rm_Fo_placeOf_t : Room := { frames := 7, cells := 1, slots := 6, locals := 103 }
set_option maxRecDepth 100000 in
set_option maxHeartbeats 4000000 in
theorem c_Fo_placeOf_t (l : Launch) (hltr : l.stackTraces = false) (D : va_G) (cI cZ cJ : ClassId) (xFo : Nat → Nat) (sz : Nat) (gFo : St) (p1 : Int32) (p2 : Int32) (E : String) (h : f_Fo_placeOf gFo p1 p2 = some (.inr E)) : MT l y_Fo_placeOf b_Fo_placeOf 3 (some .int) rm_Fo_placeOf_t D (TYS cI cZ cJ) [.ref (xFo 0), .int p1, .int p2] (wFo xFo cI cZ gFo) sz E := by
  refine mt_start (own := R_Fo) (by decide +kernel) rfl (Nat.le_of_ble_eq_true rfl) (fun p e s m args below meth c A ls C0 hAe hno hlk hP hD hS hl => ?_)
  obtain ⟨Q, hQ⟩ : ∃ Q, Q = QT below D (TYS cI cZ cJ) (wFo xFo cI cZ gFo) E args s := ⟨_, rfl⟩
  rw [← hQ]
  obtain ⟨hx, hb, -, hown, hts, hK, hE, -⟩ := id C0
  have hl : lv_has ls 3 [(0, .ref (xFo 0)), (1, .int p1), (2, .int p2)] := hl
  obtain ⟨H, hH⟩ : ∃ H, H = s.heap := ⟨_, rfl⟩
  have hP : va_P D vwCl (wFo xFo cI cZ gFo) H := by rw [hH]; exact hP
  have hS : va_S A s.heap H [] := by rw [hH]; exact hS
  rw [show W p l e rm_Fo_placeOf_t s m args below meth c s.heap = W p l e rm_Fo_placeOf_t s m args below meth c H by rw [hH]]
  generalize ([] : List Loc) = locs at hS ⊢
  unfold f_Fo_placeOf at h
  refine lv_iload_n hx hb d_Fo_placeOf_0 rfl (lv_at hl 1 rfl) ?_
  refine lv_iconst (v := 4) hx hb d_Fo_placeOf_1 (by decide) ?_
  obtain ⟨hc_1, h⟩ | ⟨E9, hc_1, h⟩ := xc0_i h
  rotate_left
  · cases h
    rw [hQ]
    exact x_out C0 hAe hno hlk hP hD hS [] rfl rfl rfl (rN (As := [.int p1, .int 4]) (rest := []) C0 hP hD hS hl.1 [] (c_Cc_requireIndex_t l hltr D cI cZ cJ  H.size p1 4 E hc_1) k_Cc_requireIndex (List.mem_of_getElem? (i := 3) rfl) rfl rfl ⟨by decide, by decide⟩ ⟨rfl, rfl⟩ rfl (Nat.le_of_ble_eq_true rfl) d_Fo_placeOf_2 ⟨by decide, by decide⟩) ⟨rfl, rfl⟩
  refine cNv (ws' := (wFo xFo cI cZ gFo)) (As := [.int p1, .int 4]) (rest := []) C0 hP hD hS hl.1 [] (c_Cc_requireIndex_r l D cI cZ cJ  H.size p1 4 hc_1) k_Cc_requireIndex (List.mem_of_getElem? (i := 3) rfl) rfl rfl rfl (rp_same rfl) ⟨by decide, by decide⟩ ⟨rfl, rfl⟩ rfl (Nat.le_of_ble_eq_true rfl) d_Fo_placeOf_2 ⟨Nat.zero_le _, Nat.zero_le _⟩ (fun H locs hP hD hS => ?_)
  refine lv_iload_n hx hb d_Fo_placeOf_5 rfl (lv_at hl 2 rfl) ?_
  refine lv_aload_n hx hb d_Fo_placeOf_6 rfl (lv_at hl 0 rfl) ?_
  refine va_get (ci := 1) (v := .ref (xFo 1)) (C := R_Fo) (T := F_Fo) (N := 5) hx hb hts i_Fo hown hK hP 0 rfl rfl 0 (by decide) (hts _ m_84) (fun _ h9 => h9) rfl d_Fo_placeOf_7 ?_
  refine lv_iload_n hx hb d_Fo_placeOf_10 rfl (lv_at hl 1 rfl) ?_
  obtain ⟨hi_2, h⟩ := gb_i h
  refine va_iald hx hb hK hP 1 0 rfl rfl (inb_in hi_2) d_Fo_placeOf_11 ?_
  obtain ⟨x_3, ex_3, h⟩ := letb_i h
  refine lv_topn ex_3 ?_
  obtain ⟨hc_4, h⟩ | ⟨E9, hc_4, h⟩ := xc0_i h
  rotate_left
  · cases h
    rw [hQ]
    exact x_out C0 hAe hno hlk hP hD hS [] rfl rfl rfl (rN (As := [.int p2, .int x_3]) (rest := []) C0 hP hD hS hl.1 [] (c_Cc_requireIndex_t l hltr D cI cZ cJ  H.size p2 x_3 E hc_4) k_Cc_requireIndex (List.mem_of_getElem? (i := 3) rfl) rfl rfl ⟨by decide, by decide⟩ ⟨rfl, rfl⟩ rfl (Nat.le_of_ble_eq_true rfl) d_Fo_placeOf_12 ⟨by decide, by decide⟩) ⟨rfl, rfl⟩
  refine cNv (ws' := (wFo xFo cI cZ gFo)) (As := [.int p2, .int x_3]) (rest := []) C0 hP hD hS hl.1 [] (c_Cc_requireIndex_r l D cI cZ cJ  H.size p2 x_3 hc_4) k_Cc_requireIndex (List.mem_of_getElem? (i := 3) rfl) rfl rfl rfl (rp_same rfl) ⟨by decide, by decide⟩ ⟨rfl, rfl⟩ rfl (Nat.le_of_ble_eq_true rfl) d_Fo_placeOf_12 ⟨Nat.zero_le _, Nat.zero_le _⟩ (fun H locs hP hD hS => ?_)
  refine lv_iload_n hx hb d_Fo_placeOf_15 rfl (lv_at hl 1 rfl) ?_
  refine lv_bipush (v := 8) hx hb d_Fo_placeOf_16 (by decide) ?_
  refine lv_imul hx hb d_Fo_placeOf_18 ?_
  refine lv_iload_n hx hb d_Fo_placeOf_19 rfl (lv_at hl 2 rfl) ?_
  refine lv_iadd hx hb d_Fo_placeOf_20 ?_
  cases h
abbrev rm_Fo_addPoint_r : Room := { frames := 2, cells := 0, slots := 0, locals := 43 }
set_option maxRecDepth 100000 in
set_option maxHeartbeats 4000000 in
theorem c_Fo_addPoint_r (l : Launch) (D : va_G) (cI cZ cJ : ClassId) (xFo : Nat → Nat) (sz : Nat) (gFo : St) (p1 : Int32) (p2 : Int32) (p3 : Int32) (p4 : Int32) (r : Int32) (gFo1 : St) (h : f_Fo_addPoint gFo p1 p2 p3 p4 = some (.inl (r, gFo1))) : MI l y_Fo_addPoint b_Fo_addPoint 9 (some .int) rm_Fo_addPoint_r D (TYS cI cZ cJ) [.ref (xFo 0), .int p1, .int p2, .int p3, .int p4] (wFo xFo cI cZ gFo) sz r (wFo xFo cI cZ gFo1) := by
  refine mi_start (own := R_Fo) (by decide +kernel) rfl (Nat.le_of_ble_eq_true rfl) (fun p e s m args below meth c A ls C0 hr hlk hP hD hS hl => ?_)
  obtain ⟨Q, hQ⟩ : ∃ Q, Q = QI below D (TYS cI cZ cJ) A (wFo xFo cI cZ gFo1) r args s := ⟨_, rfl⟩
  rw [← hQ]
  obtain ⟨hx, hb, -, hown, hts, hK, hE, -⟩ := id C0
  have hl : lv_has ls 9 [(0, .ref (xFo 0)), (1, .int p1), (2, .int p2), (3, .int p3), (4, .int p4)] := hl
  obtain ⟨H, hH⟩ : ∃ H, H = s.heap := ⟨_, rfl⟩
  have hP : va_P D vwCl (wFo xFo cI cZ gFo) H := by rw [hH]; exact hP
  have hS : va_S A s.heap H [] := by rw [hH]; exact hS
  rw [show W p l e rm_Fo_addPoint_r s m args below meth c s.heap = W p l e rm_Fo_addPoint_r s m args below meth c H by rw [hH]]
  generalize ([] : List Loc) = locs at hS ⊢
  unfold f_Fo_addPoint at h
  refine lv_aload_n hx hb d_Fo_addPoint_0 rfl (lv_at hl 0 rfl) ?_
  refine lv_iload_n hx hb d_Fo_addPoint_1 rfl (lv_at hl 1 rfl) ?_
  refine lv_iload_n hx hb d_Fo_addPoint_2 rfl (lv_at hl 2 rfl) ?_
  obtain ⟨r_1, hc_2, h⟩ | ⟨E9, hc_2, h⟩ := xc1_i h
  rotate_left
  · cases h
  refine cVi (ws' := (wFo xFo cI cZ gFo)) (As := [.int p1, .int p2]) (rest := []) C0 hP hD hS hl.1 [0, 1, 2, 3, 4, 5] (c_Fo_placeOf_r l D cI cZ cJ xFo H.size gFo p1 p2 r_1 hc_2) k_Fo_placeOf m_388 rfl rfl rfl rfl rfl (rp_same rfl) ⟨by decide, by decide⟩ ⟨rfl, rfl⟩ rfl (Nat.le_of_ble_eq_true rfl) d_Fo_addPoint_3 ⟨Nat.zero_le _, Nat.zero_le _⟩ (fun H locs hP hD hS => ?_)
  refine lv_istore (lv' := [(5, .int r_1), (0, .ref (xFo 0)), (1, .int p1), (2, .int p2), (3, .int p3), (4, .int p4)]) hx hb d_Fo_addPoint_6 hl (by decide) rfl (fun ls hl => ?_)
  refine lv_aload_n hx hb d_Fo_addPoint_8 rfl (lv_at hl 1 rfl) ?_
  refine va_get (ci := 1) (v := .ref (xFo 3)) (C := R_Fo) (T := F_Fo) (N := 5) hx hb hts i_Fo hown hK hP 0 rfl rfl 2 (by decide) (hts _ m_86) (fun _ h9 => h9) rfl d_Fo_addPoint_9 ?_
  refine lv_iload hx hb d_Fo_addPoint_12 (lv_at hl 0 rfl) ?_
  obtain ⟨hi_3, h⟩ := gb_i h
  refine va_iald hx hb hK hP 3 0 rfl rfl (inb_in hi_3) d_Fo_addPoint_14 ?_
  obtain ⟨x_4, ex_4, h⟩ := letb_i h
  refine lv_topn ex_4 ?_
  refine lv_istore (lv' := [(6, .int x_4), (5, .int r_1), (0, .ref (xFo 0)), (1, .int p1), (2, .int p2), (3, .int p3), (4, .int p4)]) hx hb d_Fo_addPoint_15 hl (by decide) rfl (fun ls hl => ?_)
  refine lv_iload hx hb d_Fo_addPoint_17 (lv_at hl 0 rfl) ?_
  refine lv_bipush (v := 6) hx hb d_Fo_addPoint_19 (by decide) ?_
  obtain ⟨hc_5, h⟩ | ⟨E9, hc_5, h⟩ := xc0_i h
  rotate_left
  · cases h
  refine cNv (ws' := (wFo xFo cI cZ gFo)) (As := [.int x_4, .int 6]) (rest := []) C0 hP hD hS hl.1 [] (c_Cc_requireRoom_r l D cI cZ cJ  H.size x_4 6 hc_5) k_Cc_requireRoom (List.mem_of_getElem? (i := 4) rfl) rfl rfl rfl (rp_same rfl) ⟨by decide, by decide⟩ ⟨rfl, rfl⟩ rfl (Nat.le_of_ble_eq_true rfl) d_Fo_addPoint_21 ⟨Nat.zero_le _, Nat.zero_le _⟩ (fun H locs hP hD hS => ?_)
  refine lv_iload hx hb d_Fo_addPoint_24 (lv_at hl 1 rfl) ?_
  refine lv_bipush (v := 6) hx hb d_Fo_addPoint_26 (by decide) ?_
  refine lv_imul hx hb d_Fo_addPoint_28 ?_
  refine lv_iload hx hb d_Fo_addPoint_29 (lv_at hl 0 rfl) ?_
  refine lv_iadd hx hb d_Fo_addPoint_31 ?_
  obtain ⟨x_6, ex_6, h⟩ := letb_i h
  refine lv_topn ex_6 ?_
  refine lv_istore (lv' := [(7, .int x_6), (6, .int x_4), (5, .int r_1), (0, .ref (xFo 0)), (1, .int p1), (2, .int p2), (3, .int p3), (4, .int p4)]) hx hb d_Fo_addPoint_32 hl (by decide) rfl (fun ls hl => ?_)
  refine lv_iload hx hb d_Fo_addPoint_34 (lv_at hl 1 rfl) ?_
  have K52 : ∀ (s0_52 : Int32) (v5_52 : Int32) (v6_52 : Int32) (v7_52 : Int32) (H : Heap) (locs : List Loc) (ls : Array Slot), va_P D vwCl (wFo xFo cI cZ gFo) H → va_D A (wFo xFo cI cZ gFo) → va_S A s.heap H locs → lv_has ls 9 [(0, .ref (xFo 0)), (1, .int p1), (2, .int p2), (3, .int p3), (4, .int p4), (5, .int v5_52), (6, .int v6_52), (7, .int v7_52)] → f_Fo_addPoint_J52 gFo p3 p4 s0_52 v5_52 v6_52 v7_52 = some (.inl (r, gFo1)) → W p l e rm_Fo_addPoint_r s m args below meth c H locs 0 0 Q (F0 m 52 ls [.int s0_52]) := by
    intro s0_52 v5_52 v6_52 v7_52 H locs ls hP hD hS hl h
    unfold f_Fo_addPoint_J52 at h
    refine lv_istore (lv' := [(8, .int s0_52), (0, .ref (xFo 0)), (1, .int p1), (2, .int p2), (3, .int p3), (4, .int p4), (5, .int v5_52), (6, .int v6_52), (7, .int v7_52)]) hx hb d_Fo_addPoint_52 hl (by decide) rfl (fun ls hl => ?_)
    refine lv_iload_n hx hb d_Fo_addPoint_54 rfl (lv_at hl 4 rfl) ?_
    refine lv_iload hx hb d_Fo_addPoint_55 (lv_at hl 0 rfl) ?_
    refine lv_iconst (v := 1) hx hb d_Fo_addPoint_57 (by decide) ?_
    refine lv_iadd hx hb d_Fo_addPoint_58 ?_
    refine lv_sipush (v := 10000) hx hb d_Fo_addPoint_59 (by decide) ?_
    obtain ⟨hc_7, h⟩ | ⟨E9, hc_7, h⟩ := xc0_i h
    rotate_left
    · cases h
    refine cNv (ws' := (wFo xFo cI cZ gFo)) (As := [.int p3, .int (s0_52 + 1), .int 10000]) (rest := []) C0 hP hD hS hl.1 [] (c_Cc_requireRange_r l D cI cZ cJ  H.size p3 (s0_52 + 1) 10000 hc_7) k_Cc_requireRange (List.mem_of_getElem? (i := 5) rfl) rfl rfl rfl (rp_same rfl) ⟨by decide, by decide⟩ ⟨rfl, rfl⟩ rfl (Nat.le_of_ble_eq_true rfl) d_Fo_addPoint_62 ⟨Nat.zero_le _, Nat.zero_le _⟩ (fun H locs hP hD hS => ?_)
    refine lv_iload hx hb d_Fo_addPoint_65 (lv_at hl 5 rfl) ?_
    refine lv_iconst (v := 1) hx hb d_Fo_addPoint_67 (by decide) ?_
    refine lv_sipush (v := 1000) hx hb d_Fo_addPoint_68 (by decide) ?_
    obtain ⟨hc_8, h⟩ | ⟨E9, hc_8, h⟩ := xc0_i h
    rotate_left
    · cases h
    refine cNv (ws' := (wFo xFo cI cZ gFo)) (As := [.int p4, .int 1, .int 1000]) (rest := []) C0 hP hD hS hl.1 [] (c_Cc_requireRange_r l D cI cZ cJ  H.size p4 1 1000 hc_8) k_Cc_requireRange (List.mem_of_getElem? (i := 5) rfl) rfl rfl rfl (rp_same rfl) ⟨by decide, by decide⟩ ⟨rfl, rfl⟩ rfl (Nat.le_of_ble_eq_true rfl) d_Fo_addPoint_71 ⟨Nat.zero_le _, Nat.zero_le _⟩ (fun H locs hP hD hS => ?_)
    refine lv_aload_n hx hb d_Fo_addPoint_74 rfl (lv_at hl 1 rfl) ?_
    refine va_get (ci := 1) (v := .ref (xFo 4)) (C := R_Fo) (T := F_Fo) (N := 5) hx hb hts i_Fo hown hK hP 0 rfl rfl 3 (by decide) (hts _ m_87) (fun _ h9 => h9) rfl d_Fo_addPoint_75 ?_
    refine lv_iload hx hb d_Fo_addPoint_78 (lv_at hl 8 rfl) ?_
    refine lv_iload_n hx hb d_Fo_addPoint_80 rfl (lv_at hl 4 rfl) ?_
    obtain ⟨hi_9, h⟩ := gb_i h
    refine va_iast hx hb hK hP hD hS 4 0 rfl rfl (inb_in hi_9) d_Fo_addPoint_81 (fun H locs hP hD hS => ?_)
    obtain ⟨gFo_10, egFo_10, h⟩ := letb_i h
    have hP : va_P D vwCl (wFo xFo cI cZ gFo_10) H := by rw [egFo_10, u_Fo_4]; exact hP
    have hD : va_D A (wFo xFo cI cZ gFo_10) := by rw [egFo_10, u_Fo_4]; exact hD
    refine lv_aload_n hx hb d_Fo_addPoint_82 rfl (lv_at hl 1 rfl) ?_
    refine va_get (ci := 1) (v := .ref (xFo 5)) (C := R_Fo) (T := F_Fo) (N := 5) hx hb hts i_Fo hown hK hP 0 rfl rfl 4 (by decide) (hts _ m_88) (fun _ h9 => h9) rfl d_Fo_addPoint_83 ?_
    refine lv_iload hx hb d_Fo_addPoint_86 (lv_at hl 8 rfl) ?_
    refine lv_iload hx hb d_Fo_addPoint_88 (lv_at hl 5 rfl) ?_
    obtain ⟨hi_11, h⟩ := gb_i h
    refine va_iast hx hb hK hP hD hS 5 0 rfl rfl (inb_in hi_11) d_Fo_addPoint_90 (fun H locs hP hD hS => ?_)
    obtain ⟨gFo_12, egFo_12, h⟩ := letb_i h
    have hP : va_P D vwCl (wFo xFo cI cZ gFo_12) H := by rw [egFo_12, u_Fo_5]; exact hP
    have hD : va_D A (wFo xFo cI cZ gFo_12) := by rw [egFo_12, u_Fo_5]; exact hD
    refine lv_aload_n hx hb d_Fo_addPoint_91 rfl (lv_at hl 1 rfl) ?_
    refine va_get (ci := 1) (v := .ref (xFo 3)) (C := R_Fo) (T := F_Fo) (N := 5) hx hb hts i_Fo hown hK hP 0 rfl rfl 2 (by decide) (hts _ m_86) (fun _ h9 => h9) rfl d_Fo_addPoint_92 ?_
    refine lv_iload hx hb d_Fo_addPoint_95 (lv_at hl 6 rfl) ?_
    refine lv_iload hx hb d_Fo_addPoint_97 (lv_at hl 7 rfl) ?_
    refine lv_iconst (v := 1) hx hb d_Fo_addPoint_99 (by decide) ?_
    refine lv_iadd hx hb d_Fo_addPoint_100 ?_
    obtain ⟨hi_13, h⟩ := gb_i h
    refine va_iast hx hb hK hP hD hS 3 0 rfl rfl (inb_in hi_13) d_Fo_addPoint_101 (fun H locs hP hD hS => ?_)
    obtain ⟨gFo_14, egFo_14, h⟩ := letb_i h
    have hP : va_P D vwCl (wFo xFo cI cZ gFo_14) H := by rw [egFo_14, u_Fo_3]; exact hP
    have hD : va_D A (wFo xFo cI cZ gFo_14) := by rw [egFo_14, u_Fo_3]; exact hD
    refine lv_iload hx hb d_Fo_addPoint_102 (lv_at hl 7 rfl) ?_
    refine lv_iconst (v := 1) hx hb d_Fo_addPoint_104 (by decide) ?_
    refine lv_iadd hx hb d_Fo_addPoint_105 ?_
    cases h
    rw [hQ]
    exact mi_ret C0 hr rfl hlk hP hD hS d_Fo_addPoint_106
  refine lv_if_ne (tgt := 43) hx hb d_Fo_addPoint_36 (by decide) (fun c_15 => ?_) (fun c_15 => ?_)
  · rw [if_neg c_15] at h
    refine lv_aload_n hx hb d_Fo_addPoint_43 rfl (lv_at hl 3 rfl) ?_
    refine va_get (ci := 1) (v := .ref (xFo 4)) (C := R_Fo) (T := F_Fo) (N := 5) hx hb hts i_Fo hown hK hP 0 rfl rfl 3 (by decide) (hts _ m_87) (fun _ h9 => h9) rfl d_Fo_addPoint_44 ?_
    refine lv_iload hx hb d_Fo_addPoint_47 (lv_at hl 0 rfl) ?_
    refine lv_iconst (v := 1) hx hb d_Fo_addPoint_49 (by decide) ?_
    refine lv_isub hx hb d_Fo_addPoint_50 ?_
    obtain ⟨hi_16, h⟩ := gb_i h
    refine va_iald hx hb hK hP 4 0 rfl rfl (inb_in hi_16) d_Fo_addPoint_51 ?_
    obtain ⟨x_17, ex_17, h⟩ := letb_i h
    refine lv_topn ex_17 ?_
    exact K52 x_17 r_1 x_4 x_6 H locs ls hP hD hS (lv_sub hl [3, 4, 5, 6, 7, 2, 1, 0] rfl) h
  · rw [if_pos c_15] at h
    refine lv_iconst (v := (-1)) hx hb d_Fo_addPoint_39 (by decide) ?_
    refine lv_goto (tgt := 52) hx hb d_Fo_addPoint_40 (by decide) ?_
    exact K52 (-1) r_1 x_4 x_6 H locs ls hP hD hS (lv_sub hl [3, 4, 5, 6, 7, 2, 1, 0] rfl) h
abbrev rm_Fo_addPoint_t : Room := { frames := 8, cells := 1, slots := 6, locals := 125 }
set_option maxRecDepth 100000 in
set_option maxHeartbeats 4000000 in
theorem c_Fo_addPoint_t (l : Launch) (hltr : l.stackTraces = false) (D : va_G) (cI cZ cJ : ClassId) (xFo : Nat → Nat) (sz : Nat) (gFo : St) (p1 : Int32) (p2 : Int32) (p3 : Int32) (p4 : Int32) (E : String) (h : f_Fo_addPoint gFo p1 p2 p3 p4 = some (.inr E)) : MT l y_Fo_addPoint b_Fo_addPoint 9 (some .int) rm_Fo_addPoint_t D (TYS cI cZ cJ) [.ref (xFo 0), .int p1, .int p2, .int p3, .int p4] (wFo xFo cI cZ gFo) sz E := by
  refine mt_start (own := R_Fo) (by decide +kernel) rfl (Nat.le_of_ble_eq_true rfl) (fun p e s m args below meth c A ls C0 hAe hno hlk hP hD hS hl => ?_)
  obtain ⟨Q, hQ⟩ : ∃ Q, Q = QT below D (TYS cI cZ cJ) (wFo xFo cI cZ gFo) E args s := ⟨_, rfl⟩
  rw [← hQ]
  obtain ⟨hx, hb, -, hown, hts, hK, hE, -⟩ := id C0
  have hl : lv_has ls 9 [(0, .ref (xFo 0)), (1, .int p1), (2, .int p2), (3, .int p3), (4, .int p4)] := hl
  obtain ⟨H, hH⟩ : ∃ H, H = s.heap := ⟨_, rfl⟩
  have hP : va_P D vwCl (wFo xFo cI cZ gFo) H := by rw [hH]; exact hP
  have hS : va_S A s.heap H [] := by rw [hH]; exact hS
  rw [show W p l e rm_Fo_addPoint_t s m args below meth c s.heap = W p l e rm_Fo_addPoint_t s m args below meth c H by rw [hH]]
  generalize ([] : List Loc) = locs at hS ⊢
  unfold f_Fo_addPoint at h
  refine lv_aload_n hx hb d_Fo_addPoint_0 rfl (lv_at hl 0 rfl) ?_
  refine lv_iload_n hx hb d_Fo_addPoint_1 rfl (lv_at hl 1 rfl) ?_
  refine lv_iload_n hx hb d_Fo_addPoint_2 rfl (lv_at hl 2 rfl) ?_
  obtain ⟨r_1, hc_2, h⟩ | ⟨E9, hc_2, h⟩ := xc1_i h
  rotate_left
  · cases h
    rw [hQ]
    exact x_out C0 hAe hno hlk hP hD hS [0, 1, 2, 3, 4, 5] rfl rfl rfl (rV (As := [.int p1, .int p2]) (rest := []) C0 hP hD hS hl.1 [0, 1, 2, 3, 4, 5] (c_Fo_placeOf_t l hltr D cI cZ cJ xFo H.size gFo p1 p2 E hc_2) k_Fo_placeOf m_388 rfl rfl rfl rfl ⟨by decide, by decide⟩ ⟨rfl, rfl⟩ rfl (Nat.le_of_ble_eq_true rfl) d_Fo_addPoint_3 ⟨by decide, by decide⟩) ⟨rfl, rfl⟩
  refine cVi (ws' := (wFo xFo cI cZ gFo)) (As := [.int p1, .int p2]) (rest := []) C0 hP hD hS hl.1 [0, 1, 2, 3, 4, 5] (c_Fo_placeOf_r l D cI cZ cJ xFo H.size gFo p1 p2 r_1 hc_2) k_Fo_placeOf m_388 rfl rfl rfl rfl rfl (rp_same rfl) ⟨by decide, by decide⟩ ⟨rfl, rfl⟩ rfl (Nat.le_of_ble_eq_true rfl) d_Fo_addPoint_3 ⟨Nat.zero_le _, Nat.zero_le _⟩ (fun H locs hP hD hS => ?_)
  refine lv_istore (lv' := [(5, .int r_1), (0, .ref (xFo 0)), (1, .int p1), (2, .int p2), (3, .int p3), (4, .int p4)]) hx hb d_Fo_addPoint_6 hl (by decide) rfl (fun ls hl => ?_)
  refine lv_aload_n hx hb d_Fo_addPoint_8 rfl (lv_at hl 1 rfl) ?_
  refine va_get (ci := 1) (v := .ref (xFo 3)) (C := R_Fo) (T := F_Fo) (N := 5) hx hb hts i_Fo hown hK hP 0 rfl rfl 2 (by decide) (hts _ m_86) (fun _ h9 => h9) rfl d_Fo_addPoint_9 ?_
  refine lv_iload hx hb d_Fo_addPoint_12 (lv_at hl 0 rfl) ?_
  obtain ⟨hi_3, h⟩ := gb_i h
  refine va_iald hx hb hK hP 3 0 rfl rfl (inb_in hi_3) d_Fo_addPoint_14 ?_
  obtain ⟨x_4, ex_4, h⟩ := letb_i h
  refine lv_topn ex_4 ?_
  refine lv_istore (lv' := [(6, .int x_4), (5, .int r_1), (0, .ref (xFo 0)), (1, .int p1), (2, .int p2), (3, .int p3), (4, .int p4)]) hx hb d_Fo_addPoint_15 hl (by decide) rfl (fun ls hl => ?_)
  refine lv_iload hx hb d_Fo_addPoint_17 (lv_at hl 0 rfl) ?_
  refine lv_bipush (v := 6) hx hb d_Fo_addPoint_19 (by decide) ?_
  obtain ⟨hc_5, h⟩ | ⟨E9, hc_5, h⟩ := xc0_i h
  rotate_left
  · cases h
    rw [hQ]
    exact x_out C0 hAe hno hlk hP hD hS [] rfl rfl rfl (rN (As := [.int x_4, .int 6]) (rest := []) C0 hP hD hS hl.1 [] (c_Cc_requireRoom_t l hltr D cI cZ cJ  H.size x_4 6 E hc_5) k_Cc_requireRoom (List.mem_of_getElem? (i := 4) rfl) rfl rfl ⟨by decide, by decide⟩ ⟨rfl, rfl⟩ rfl (Nat.le_of_ble_eq_true rfl) d_Fo_addPoint_21 ⟨by decide, by decide⟩) ⟨rfl, rfl⟩
  refine cNv (ws' := (wFo xFo cI cZ gFo)) (As := [.int x_4, .int 6]) (rest := []) C0 hP hD hS hl.1 [] (c_Cc_requireRoom_r l D cI cZ cJ  H.size x_4 6 hc_5) k_Cc_requireRoom (List.mem_of_getElem? (i := 4) rfl) rfl rfl rfl (rp_same rfl) ⟨by decide, by decide⟩ ⟨rfl, rfl⟩ rfl (Nat.le_of_ble_eq_true rfl) d_Fo_addPoint_21 ⟨Nat.zero_le _, Nat.zero_le _⟩ (fun H locs hP hD hS => ?_)
  refine lv_iload hx hb d_Fo_addPoint_24 (lv_at hl 1 rfl) ?_
  refine lv_bipush (v := 6) hx hb d_Fo_addPoint_26 (by decide) ?_
  refine lv_imul hx hb d_Fo_addPoint_28 ?_
  refine lv_iload hx hb d_Fo_addPoint_29 (lv_at hl 0 rfl) ?_
  refine lv_iadd hx hb d_Fo_addPoint_31 ?_
  obtain ⟨x_6, ex_6, h⟩ := letb_i h
  refine lv_topn ex_6 ?_
  refine lv_istore (lv' := [(7, .int x_6), (6, .int x_4), (5, .int r_1), (0, .ref (xFo 0)), (1, .int p1), (2, .int p2), (3, .int p3), (4, .int p4)]) hx hb d_Fo_addPoint_32 hl (by decide) rfl (fun ls hl => ?_)
  refine lv_iload hx hb d_Fo_addPoint_34 (lv_at hl 1 rfl) ?_
  have K52 : ∀ (s0_52 : Int32) (v5_52 : Int32) (v6_52 : Int32) (v7_52 : Int32) (H : Heap) (locs : List Loc) (ls : Array Slot), va_P D vwCl (wFo xFo cI cZ gFo) H → va_D A (wFo xFo cI cZ gFo) → va_S A s.heap H locs → lv_has ls 9 [(0, .ref (xFo 0)), (1, .int p1), (2, .int p2), (3, .int p3), (4, .int p4), (5, .int v5_52), (6, .int v6_52), (7, .int v7_52)] → f_Fo_addPoint_J52 gFo p3 p4 s0_52 v5_52 v6_52 v7_52 = some (.inr E) → W p l e rm_Fo_addPoint_t s m args below meth c H locs 0 0 Q (F0 m 52 ls [.int s0_52]) := by
    intro s0_52 v5_52 v6_52 v7_52 H locs ls hP hD hS hl h
    unfold f_Fo_addPoint_J52 at h
    refine lv_istore (lv' := [(8, .int s0_52), (0, .ref (xFo 0)), (1, .int p1), (2, .int p2), (3, .int p3), (4, .int p4), (5, .int v5_52), (6, .int v6_52), (7, .int v7_52)]) hx hb d_Fo_addPoint_52 hl (by decide) rfl (fun ls hl => ?_)
    refine lv_iload_n hx hb d_Fo_addPoint_54 rfl (lv_at hl 4 rfl) ?_
    refine lv_iload hx hb d_Fo_addPoint_55 (lv_at hl 0 rfl) ?_
    refine lv_iconst (v := 1) hx hb d_Fo_addPoint_57 (by decide) ?_
    refine lv_iadd hx hb d_Fo_addPoint_58 ?_
    refine lv_sipush (v := 10000) hx hb d_Fo_addPoint_59 (by decide) ?_
    obtain ⟨hc_7, h⟩ | ⟨E9, hc_7, h⟩ := xc0_i h
    rotate_left
    · cases h
      rw [hQ]
      exact x_out C0 hAe hno hlk hP hD hS [] rfl rfl rfl (rN (As := [.int p3, .int (s0_52 + 1), .int 10000]) (rest := []) C0 hP hD hS hl.1 [] (c_Cc_requireRange_t l hltr D cI cZ cJ  H.size p3 (s0_52 + 1) 10000 E hc_7) k_Cc_requireRange (List.mem_of_getElem? (i := 5) rfl) rfl rfl ⟨by decide, by decide⟩ ⟨rfl, rfl⟩ rfl (Nat.le_of_ble_eq_true rfl) d_Fo_addPoint_62 ⟨by decide, by decide⟩) ⟨rfl, rfl⟩
    refine cNv (ws' := (wFo xFo cI cZ gFo)) (As := [.int p3, .int (s0_52 + 1), .int 10000]) (rest := []) C0 hP hD hS hl.1 [] (c_Cc_requireRange_r l D cI cZ cJ  H.size p3 (s0_52 + 1) 10000 hc_7) k_Cc_requireRange (List.mem_of_getElem? (i := 5) rfl) rfl rfl rfl (rp_same rfl) ⟨by decide, by decide⟩ ⟨rfl, rfl⟩ rfl (Nat.le_of_ble_eq_true rfl) d_Fo_addPoint_62 ⟨Nat.zero_le _, Nat.zero_le _⟩ (fun H locs hP hD hS => ?_)
    refine lv_iload hx hb d_Fo_addPoint_65 (lv_at hl 5 rfl) ?_
    refine lv_iconst (v := 1) hx hb d_Fo_addPoint_67 (by decide) ?_
    refine lv_sipush (v := 1000) hx hb d_Fo_addPoint_68 (by decide) ?_
    obtain ⟨hc_8, h⟩ | ⟨E9, hc_8, h⟩ := xc0_i h
    rotate_left
    · cases h
      rw [hQ]
      exact x_out C0 hAe hno hlk hP hD hS [] rfl rfl rfl (rN (As := [.int p4, .int 1, .int 1000]) (rest := []) C0 hP hD hS hl.1 [] (c_Cc_requireRange_t l hltr D cI cZ cJ  H.size p4 1 1000 E hc_8) k_Cc_requireRange (List.mem_of_getElem? (i := 5) rfl) rfl rfl ⟨by decide, by decide⟩ ⟨rfl, rfl⟩ rfl (Nat.le_of_ble_eq_true rfl) d_Fo_addPoint_71 ⟨by decide, by decide⟩) ⟨rfl, rfl⟩
    refine cNv (ws' := (wFo xFo cI cZ gFo)) (As := [.int p4, .int 1, .int 1000]) (rest := []) C0 hP hD hS hl.1 [] (c_Cc_requireRange_r l D cI cZ cJ  H.size p4 1 1000 hc_8) k_Cc_requireRange (List.mem_of_getElem? (i := 5) rfl) rfl rfl rfl (rp_same rfl) ⟨by decide, by decide⟩ ⟨rfl, rfl⟩ rfl (Nat.le_of_ble_eq_true rfl) d_Fo_addPoint_71 ⟨Nat.zero_le _, Nat.zero_le _⟩ (fun H locs hP hD hS => ?_)
    refine lv_aload_n hx hb d_Fo_addPoint_74 rfl (lv_at hl 1 rfl) ?_
    refine va_get (ci := 1) (v := .ref (xFo 4)) (C := R_Fo) (T := F_Fo) (N := 5) hx hb hts i_Fo hown hK hP 0 rfl rfl 3 (by decide) (hts _ m_87) (fun _ h9 => h9) rfl d_Fo_addPoint_75 ?_
    refine lv_iload hx hb d_Fo_addPoint_78 (lv_at hl 8 rfl) ?_
    refine lv_iload_n hx hb d_Fo_addPoint_80 rfl (lv_at hl 4 rfl) ?_
    obtain ⟨hi_9, h⟩ := gb_i h
    refine va_iast hx hb hK hP hD hS 4 0 rfl rfl (inb_in hi_9) d_Fo_addPoint_81 (fun H locs hP hD hS => ?_)
    obtain ⟨gFo_10, egFo_10, h⟩ := letb_i h
    have hP : va_P D vwCl (wFo xFo cI cZ gFo_10) H := by rw [egFo_10, u_Fo_4]; exact hP
    have hD : va_D A (wFo xFo cI cZ gFo_10) := by rw [egFo_10, u_Fo_4]; exact hD
    refine lv_aload_n hx hb d_Fo_addPoint_82 rfl (lv_at hl 1 rfl) ?_
    refine va_get (ci := 1) (v := .ref (xFo 5)) (C := R_Fo) (T := F_Fo) (N := 5) hx hb hts i_Fo hown hK hP 0 rfl rfl 4 (by decide) (hts _ m_88) (fun _ h9 => h9) rfl d_Fo_addPoint_83 ?_
    refine lv_iload hx hb d_Fo_addPoint_86 (lv_at hl 8 rfl) ?_
    refine lv_iload hx hb d_Fo_addPoint_88 (lv_at hl 5 rfl) ?_
    obtain ⟨hi_11, h⟩ := gb_i h
    refine va_iast hx hb hK hP hD hS 5 0 rfl rfl (inb_in hi_11) d_Fo_addPoint_90 (fun H locs hP hD hS => ?_)
    obtain ⟨gFo_12, egFo_12, h⟩ := letb_i h
    have hP : va_P D vwCl (wFo xFo cI cZ gFo_12) H := by rw [egFo_12, u_Fo_5]; exact hP
    have hD : va_D A (wFo xFo cI cZ gFo_12) := by rw [egFo_12, u_Fo_5]; exact hD
    refine lv_aload_n hx hb d_Fo_addPoint_91 rfl (lv_at hl 1 rfl) ?_
    refine va_get (ci := 1) (v := .ref (xFo 3)) (C := R_Fo) (T := F_Fo) (N := 5) hx hb hts i_Fo hown hK hP 0 rfl rfl 2 (by decide) (hts _ m_86) (fun _ h9 => h9) rfl d_Fo_addPoint_92 ?_
    refine lv_iload hx hb d_Fo_addPoint_95 (lv_at hl 6 rfl) ?_
    refine lv_iload hx hb d_Fo_addPoint_97 (lv_at hl 7 rfl) ?_
    refine lv_iconst (v := 1) hx hb d_Fo_addPoint_99 (by decide) ?_
    refine lv_iadd hx hb d_Fo_addPoint_100 ?_
    obtain ⟨hi_13, h⟩ := gb_i h
    refine va_iast hx hb hK hP hD hS 3 0 rfl rfl (inb_in hi_13) d_Fo_addPoint_101 (fun H locs hP hD hS => ?_)
    obtain ⟨gFo_14, egFo_14, h⟩ := letb_i h
    have hP : va_P D vwCl (wFo xFo cI cZ gFo_14) H := by rw [egFo_14, u_Fo_3]; exact hP
    have hD : va_D A (wFo xFo cI cZ gFo_14) := by rw [egFo_14, u_Fo_3]; exact hD
    refine lv_iload hx hb d_Fo_addPoint_102 (lv_at hl 7 rfl) ?_
    refine lv_iconst (v := 1) hx hb d_Fo_addPoint_104 (by decide) ?_
    refine lv_iadd hx hb d_Fo_addPoint_105 ?_
    cases h
  refine lv_if_ne (tgt := 43) hx hb d_Fo_addPoint_36 (by decide) (fun c_15 => ?_) (fun c_15 => ?_)
  · rw [if_neg c_15] at h
    refine lv_aload_n hx hb d_Fo_addPoint_43 rfl (lv_at hl 3 rfl) ?_
    refine va_get (ci := 1) (v := .ref (xFo 4)) (C := R_Fo) (T := F_Fo) (N := 5) hx hb hts i_Fo hown hK hP 0 rfl rfl 3 (by decide) (hts _ m_87) (fun _ h9 => h9) rfl d_Fo_addPoint_44 ?_
    refine lv_iload hx hb d_Fo_addPoint_47 (lv_at hl 0 rfl) ?_
    refine lv_iconst (v := 1) hx hb d_Fo_addPoint_49 (by decide) ?_
    refine lv_isub hx hb d_Fo_addPoint_50 ?_
    obtain ⟨hi_16, h⟩ := gb_i h
    refine va_iald hx hb hK hP 4 0 rfl rfl (inb_in hi_16) d_Fo_addPoint_51 ?_
    obtain ⟨x_17, ex_17, h⟩ := letb_i h
    refine lv_topn ex_17 ?_
    exact K52 x_17 r_1 x_4 x_6 H locs ls hP hD hS (lv_sub hl [3, 4, 5, 6, 7, 2, 1, 0] rfl) h
  · rw [if_pos c_15] at h
    refine lv_iconst (v := (-1)) hx hb d_Fo_addPoint_39 (by decide) ?_
    refine lv_goto (tgt := 52) hx hb d_Fo_addPoint_40 (by decide) ?_
    exact K52 (-1) r_1 x_4 x_6 H locs ls hP hD hS (lv_sub hl [3, 4, 5, 6, 7, 2, 1, 0] rfl) h
abbrev rm_Fo_valueBetween_r : Room := { frames := 1, cells := 0, slots := 0, locals := 22 }
set_option maxRecDepth 100000 in
set_option maxHeartbeats 4000000 in
theorem c_Fo_valueBetween_r (l : Launch) (D : va_G) (cI cZ cJ : ClassId) (xFo : Nat → Nat) (sz : Nat) (gFo : St) (p1 : Int32) (p2 : Int32) (p3 : Int32) (r : Int32) (h : f_Fo_valueBetween gFo p1 p2 p3 = some r) : MI l y_Fo_valueBetween b_Fo_valueBetween 6 (some .int) rm_Fo_valueBetween_r D (TYS cI cZ cJ) [.ref (xFo 0), .int p1, .int p2, .int p3] (wFo xFo cI cZ gFo) sz r (wFo xFo cI cZ gFo) := by
  refine mi_start (own := R_Fo) (by decide +kernel) rfl (Nat.le_of_ble_eq_true rfl) (fun p e s m args below meth c A ls C0 hr hlk hP hD hS hl => ?_)
  obtain ⟨Q, hQ⟩ : ∃ Q, Q = QI below D (TYS cI cZ cJ) A (wFo xFo cI cZ gFo) r args s := ⟨_, rfl⟩
  rw [← hQ]
  obtain ⟨hx, hb, -, hown, hts, hK, hE, -⟩ := id C0
  have hl : lv_has ls 6 [(0, .ref (xFo 0)), (1, .int p1), (2, .int p2), (3, .int p3)] := hl
  obtain ⟨H, hH⟩ : ∃ H, H = s.heap := ⟨_, rfl⟩
  have hP : va_P D vwCl (wFo xFo cI cZ gFo) H := by rw [hH]; exact hP
  have hS : va_S A s.heap H [] := by rw [hH]; exact hS
  rw [show W p l e rm_Fo_valueBetween_r s m args below meth c s.heap = W p l e rm_Fo_valueBetween_r s m args below meth c H by rw [hH]]
  generalize ([] : List Loc) = locs at hS ⊢
  unfold f_Fo_valueBetween at h
  refine lv_aload_n hx hb d_Fo_valueBetween_0 rfl (lv_at hl 0 rfl) ?_
  refine va_get (ci := 1) (v := .ref (xFo 4)) (C := R_Fo) (T := F_Fo) (N := 5) hx hb hts i_Fo hown hK hP 0 rfl rfl 3 (by decide) (hts _ m_87) (fun _ h9 => h9) rfl d_Fo_valueBetween_1 ?_
  refine lv_iload_n hx hb d_Fo_valueBetween_4 rfl (lv_at hl 2 rfl) ?_
  obtain ⟨hi_1, h⟩ := gb_i h
  refine va_iald hx hb hK hP 4 0 rfl rfl (inb_in hi_1) d_Fo_valueBetween_5 ?_
  obtain ⟨x_2, ex_2, h⟩ := letb_i h
  refine lv_topn ex_2 ?_
  refine lv_aload_n hx hb d_Fo_valueBetween_6 rfl (lv_at hl 0 rfl) ?_
  refine va_get (ci := 1) (v := .ref (xFo 4)) (C := R_Fo) (T := F_Fo) (N := 5) hx hb hts i_Fo hown hK hP 0 rfl rfl 3 (by decide) (hts _ m_87) (fun _ h9 => h9) rfl d_Fo_valueBetween_7 ?_
  refine lv_iload_n hx hb d_Fo_valueBetween_10 rfl (lv_at hl 1 rfl) ?_
  obtain ⟨hi_3, h⟩ := gb_i h
  refine va_iald hx hb hK hP 4 0 rfl rfl (inb_in hi_3) d_Fo_valueBetween_11 ?_
  obtain ⟨x_4, ex_4, h⟩ := letb_i h
  refine lv_topn ex_4 ?_
  refine lv_isub hx hb d_Fo_valueBetween_12 ?_
  obtain ⟨x_5, ex_5, h⟩ := letb_i h
  refine lv_topn ex_5 ?_
  refine lv_istore (lv' := [(4, .int x_5), (0, .ref (xFo 0)), (1, .int p1), (2, .int p2), (3, .int p3)]) hx hb d_Fo_valueBetween_13 hl (by decide) rfl (fun ls hl => ?_)
  refine lv_iload hx hb d_Fo_valueBetween_15 (lv_at hl 0 rfl) ?_
  refine lv_iconst (v := 1) hx hb d_Fo_valueBetween_17 (by decide) ?_
  refine lv_icmp_ge (tgt := 28) hx hb d_Fo_valueBetween_18 (by decide) (fun c_6 => ?_) (fun c_6 => ?_)
  · rw [if_pos c_6] at h
    refine lv_aload_n hx hb d_Fo_valueBetween_28 rfl (lv_at hl 1 rfl) ?_
    refine va_get (ci := 1) (v := .ref (xFo 5)) (C := R_Fo) (T := F_Fo) (N := 5) hx hb hts i_Fo hown hK hP 0 rfl rfl 4 (by decide) (hts _ m_88) (fun _ h9 => h9) rfl d_Fo_valueBetween_29 ?_
    refine lv_iload_n hx hb d_Fo_valueBetween_32 rfl (lv_at hl 2 rfl) ?_
    obtain ⟨hi_7, h⟩ := gb_i h
    refine va_iald hx hb hK hP 5 0 rfl rfl (inb_in hi_7) d_Fo_valueBetween_33 ?_
    obtain ⟨x_8, ex_8, h⟩ := letb_i h
    refine lv_topn ex_8 ?_
    refine lv_aload_n hx hb d_Fo_valueBetween_34 rfl (lv_at hl 1 rfl) ?_
    refine va_get (ci := 1) (v := .ref (xFo 5)) (C := R_Fo) (T := F_Fo) (N := 5) hx hb hts i_Fo hown hK hP 0 rfl rfl 4 (by decide) (hts _ m_88) (fun _ h9 => h9) rfl d_Fo_valueBetween_35 ?_
    refine lv_iload_n hx hb d_Fo_valueBetween_38 rfl (lv_at hl 3 rfl) ?_
    obtain ⟨hi_9, h⟩ := gb_i h
    refine va_iald hx hb hK hP 5 0 rfl rfl (inb_in hi_9) d_Fo_valueBetween_39 ?_
    obtain ⟨x_10, ex_10, h⟩ := letb_i h
    refine lv_topn ex_10 ?_
    refine lv_isub hx hb d_Fo_valueBetween_40 ?_
    obtain ⟨x_11, ex_11, h⟩ := letb_i h
    refine lv_topn ex_11 ?_
    refine lv_istore (lv' := [(5, .int x_11), (4, .int x_5), (0, .ref (xFo 0)), (1, .int p1), (2, .int p2), (3, .int p3)]) hx hb d_Fo_valueBetween_41 hl (by decide) rfl (fun ls hl => ?_)
    refine lv_aload_n hx hb d_Fo_valueBetween_43 rfl (lv_at hl 2 rfl) ?_
    refine va_get (ci := 1) (v := .ref (xFo 5)) (C := R_Fo) (T := F_Fo) (N := 5) hx hb hts i_Fo hown hK hP 0 rfl rfl 4 (by decide) (hts _ m_88) (fun _ h9 => h9) rfl d_Fo_valueBetween_44 ?_
    refine lv_iload_n hx hb d_Fo_valueBetween_47 rfl (lv_at hl 3 rfl) ?_
    obtain ⟨hi_12, h⟩ := gb_i h
    refine va_iald hx hb hK hP 5 0 rfl rfl (inb_in hi_12) d_Fo_valueBetween_48 ?_
    obtain ⟨x_13, ex_13, h⟩ := letb_i h
    refine lv_topn ex_13 ?_
    refine lv_iload hx hb d_Fo_valueBetween_49 (lv_at hl 0 rfl) ?_
    refine lv_iload_n hx hb d_Fo_valueBetween_51 rfl (lv_at hl 5 rfl) ?_
    refine lv_aload_n hx hb d_Fo_valueBetween_52 rfl (lv_at hl 2 rfl) ?_
    refine va_get (ci := 1) (v := .ref (xFo 4)) (C := R_Fo) (T := F_Fo) (N := 5) hx hb hts i_Fo hown hK hP 0 rfl rfl 3 (by decide) (hts _ m_87) (fun _ h9 => h9) rfl d_Fo_valueBetween_53 ?_
    refine lv_iload_n hx hb d_Fo_valueBetween_56 rfl (lv_at hl 3 rfl) ?_
    obtain ⟨hi_14, h⟩ := gb_i h
    refine va_iald hx hb hK hP 4 0 rfl rfl (inb_in hi_14) d_Fo_valueBetween_57 ?_
    obtain ⟨x_15, ex_15, h⟩ := letb_i h
    refine lv_topn ex_15 ?_
    refine lv_isub hx hb d_Fo_valueBetween_58 ?_
    refine lv_imul hx hb d_Fo_valueBetween_59 ?_
    refine lv_iload hx hb d_Fo_valueBetween_60 (lv_at hl 1 rfl) ?_
    obtain ⟨r_16, hc_17, h⟩ := xv1_i h
    refine cSi (ws' := (wFo xFo cI cZ gFo)) (As := [.int (x_11 * (p3 - x_15)), .int x_5]) (rest := [.int x_13]) C0 hP hD hS hl.1 [] (c_Ma_floorDiv_r l D cI cZ cJ  H.size (x_11 * (p3 - x_15)) x_5 r_16 hc_17) k_Ma_floorDiv m_407 rfl rfl rfl (rp_same rfl) ⟨by decide, by decide⟩ ⟨rfl, rfl⟩ rfl (Nat.le_of_ble_eq_true rfl) d_Fo_valueBetween_62 ⟨Nat.zero_le _, Nat.zero_le _⟩ (fun H locs hP hD hS => ?_)
    refine lv_isub hx hb d_Fo_valueBetween_65 ?_
    cases h
    rw [hQ]
    exact mi_ret C0 hr rfl hlk hP hD hS d_Fo_valueBetween_66
  · rw [if_neg c_6] at h
    refine lv_aload_n hx hb d_Fo_valueBetween_21 rfl (lv_at hl 1 rfl) ?_
    refine va_get (ci := 1) (v := .ref (xFo 5)) (C := R_Fo) (T := F_Fo) (N := 5) hx hb hts i_Fo hown hK hP 0 rfl rfl 4 (by decide) (hts _ m_88) (fun _ h9 => h9) rfl d_Fo_valueBetween_22 ?_
    refine lv_iload_n hx hb d_Fo_valueBetween_25 rfl (lv_at hl 3 rfl) ?_
    obtain ⟨hi_18, h⟩ := gb_i h
    refine va_iald hx hb hK hP 5 0 rfl rfl (inb_in hi_18) d_Fo_valueBetween_26 ?_
    obtain ⟨x_19, ex_19, h⟩ := letb_i h
    refine lv_topn ex_19 ?_
    cases h
    rw [hQ]
    exact mi_ret C0 hr rfl hlk hP hD hS d_Fo_valueBetween_27
abbrev rm_Fo_valueAt_r : Room := { frames := 2, cells := 0, slots := 0, locals := 47 }
set_option maxRecDepth 100000 in
set_option maxHeartbeats 4000000 in
theorem c_Fo_valueAt_r (l : Launch) (D : va_G) (cI cZ cJ : ClassId) (xFo : Nat → Nat) (sz : Nat) (gFo : St) (p1 : Int32) (p2 : Int32) (p3 : Int32) (r : Int32) (h : f_Fo_valueAt gFo p1 p2 p3 = some (.inl r)) : MI l y_Fo_valueAt b_Fo_valueAt 8 (some .int) rm_Fo_valueAt_r D (TYS cI cZ cJ) [.ref (xFo 0), .int p1, .int p2, .int p3] (wFo xFo cI cZ gFo) sz r (wFo xFo cI cZ gFo) := by
  refine mi_start (own := R_Fo) (by decide +kernel) rfl (Nat.le_of_ble_eq_true rfl) (fun p e s m args below meth c A ls C0 hr hlk hP hD hS hl => ?_)
  obtain ⟨Q, hQ⟩ : ∃ Q, Q = QI below D (TYS cI cZ cJ) A (wFo xFo cI cZ gFo) r args s := ⟨_, rfl⟩
  rw [← hQ]
  obtain ⟨hx, hb, -, hown, hts, hK, hE, -⟩ := id C0
  have hl : lv_has ls 8 [(0, .ref (xFo 0)), (1, .int p1), (2, .int p2), (3, .int p3)] := hl
  obtain ⟨H, hH⟩ : ∃ H, H = s.heap := ⟨_, rfl⟩
  have hP : va_P D vwCl (wFo xFo cI cZ gFo) H := by rw [hH]; exact hP
  have hS : va_S A s.heap H [] := by rw [hH]; exact hS
  rw [show W p l e rm_Fo_valueAt_r s m args below meth c s.heap = W p l e rm_Fo_valueAt_r s m args below meth c H by rw [hH]]
  generalize ([] : List Loc) = locs at hS ⊢
  unfold f_Fo_valueAt at h
  refine lv_aload_n hx hb d_Fo_valueAt_0 rfl (lv_at hl 0 rfl) ?_
  refine lv_iload_n hx hb d_Fo_valueAt_1 rfl (lv_at hl 1 rfl) ?_
  refine lv_iload_n hx hb d_Fo_valueAt_2 rfl (lv_at hl 2 rfl) ?_
  obtain ⟨r_1, hc_2, h⟩ | ⟨E9, hc_2, h⟩ := xc1_i h
  rotate_left
  · cases h
  refine cVi (ws' := (wFo xFo cI cZ gFo)) (As := [.int p1, .int p2]) (rest := []) C0 hP hD hS hl.1 [0, 1, 2, 3, 4, 5] (c_Fo_placeOf_r l D cI cZ cJ xFo H.size gFo p1 p2 r_1 hc_2) k_Fo_placeOf m_388 rfl rfl rfl rfl rfl (rp_same rfl) ⟨by decide, by decide⟩ ⟨rfl, rfl⟩ rfl (Nat.le_of_ble_eq_true rfl) d_Fo_valueAt_3 ⟨Nat.zero_le _, Nat.zero_le _⟩ (fun H locs hP hD hS => ?_)
  refine lv_istore (lv' := [(4, .int r_1), (0, .ref (xFo 0)), (1, .int p1), (2, .int p2), (3, .int p3)]) hx hb d_Fo_valueAt_6 hl (by decide) rfl (fun ls hl => ?_)
  refine lv_iload hx hb d_Fo_valueAt_8 (lv_at hl 0 rfl) ?_
  refine lv_bipush (v := 6) hx hb d_Fo_valueAt_10 (by decide) ?_
  refine lv_imul hx hb d_Fo_valueAt_12 ?_
  obtain ⟨x_3, ex_3, h⟩ := letb_i h
  refine lv_topn ex_3 ?_
  refine lv_istore (lv' := [(5, .int x_3), (4, .int r_1), (0, .ref (xFo 0)), (1, .int p1), (2, .int p2), (3, .int p3)]) hx hb d_Fo_valueAt_13 hl (by decide) rfl (fun ls hl => ?_)
  refine lv_iload hx hb d_Fo_valueAt_15 (lv_at hl 0 rfl) ?_
  refine lv_aload_n hx hb d_Fo_valueAt_17 rfl (lv_at hl 2 rfl) ?_
  refine va_get (ci := 1) (v := .ref (xFo 3)) (C := R_Fo) (T := F_Fo) (N := 5) hx hb hts i_Fo hown hK hP 0 rfl rfl 2 (by decide) (hts _ m_86) (fun _ h9 => h9) rfl d_Fo_valueAt_18 ?_
  refine lv_iload hx hb d_Fo_valueAt_21 (lv_at hl 1 rfl) ?_
  obtain ⟨hi_4, h⟩ := gb_i h
  refine va_iald hx hb hK hP 3 0 rfl rfl (inb_in hi_4) d_Fo_valueAt_23 ?_
  obtain ⟨x_5, ex_5, h⟩ := letb_i h
  refine lv_topn ex_5 ?_
  refine lv_iadd hx hb d_Fo_valueAt_24 ?_
  obtain ⟨x_6, ex_6, h⟩ := letb_i h
  refine lv_topn ex_6 ?_
  refine lv_istore (lv' := [(6, .int x_6), (5, .int x_3), (4, .int r_1), (0, .ref (xFo 0)), (1, .int p1), (2, .int p2), (3, .int p3)]) hx hb d_Fo_valueAt_25 hl (by decide) rfl (fun ls hl => ?_)
  refine lv_iload hx hb d_Fo_valueAt_27 (lv_at hl 1 rfl) ?_
  refine lv_istore (lv' := [(7, .int x_3), (6, .int x_6), (5, .int x_3), (4, .int r_1), (0, .ref (xFo 0)), (1, .int p1), (2, .int p2), (3, .int p3)]) hx hb d_Fo_valueAt_29 hl (by decide) rfl (fun ls hl => ?_)
  have K97 : ∀ (v4_97 : Int32) (v5_97 : Int32) (v6_97 : Int32) (v7_97 : Int32) (H : Heap) (locs : List Loc) (ls : Array Slot), va_P D vwCl (wFo xFo cI cZ gFo) H → va_D A (wFo xFo cI cZ gFo) → va_S A s.heap H locs → lv_has ls 8 [(0, .ref (xFo 0)), (1, .int p1), (2, .int p2), (3, .int p3), (4, .int v4_97), (5, .int v5_97), (6, .int v6_97), (7, .int v7_97)] → f_Fo_valueAt_X97 v4_97 v5_97 v6_97 v7_97 = some (.inl r) → W p l e rm_Fo_valueAt_r s m args below meth c H locs 0 0 Q (F0 m 97 ls []) := by
    intro v4_97 v5_97 v6_97 v7_97 H locs ls hP hD hS hl h
    unfold f_Fo_valueAt_X97 at h
    refine lv_iconst (v := (-1)) hx hb d_Fo_valueAt_97 (by decide) ?_
    cases h
    rw [hQ]
    exact mi_ret C0 hr rfl hlk hP hD hS d_Fo_valueAt_98
  have K31 : ∀ (n : Nat) (v4_31 : Int32) (v5_31 : Int32) (v6_31 : Int32) (v7_31 : Int32) (H : Heap) (locs : List Loc) (ls : Array Slot), va_P D vwCl (wFo xFo cI cZ gFo) H → va_D A (wFo xFo cI cZ gFo) → va_S A s.heap H locs → lv_has ls 8 [(0, .ref (xFo 0)), (1, .int p1), (2, .int p2), (3, .int p3), (4, .int v4_31), (5, .int v5_31), (6, .int v6_31), (7, .int v7_31)] → it4 (f_Fo_valueAt_L31 gFo p3) n v4_31 v5_31 v6_31 v7_31 = some (.inl r) → W p l e rm_Fo_valueAt_r s m args below meth c H locs 0 0 Q (F0 m 31 ls []) := by
    intro n
    induction n with
    | zero => intro v4_31 v5_31 v6_31 v7_31 H locs ls hP hD hS hl h; exact (it4_0 h).elim
    | succ n ih =>
      intro v4_31 v5_31 v6_31 v7_31 H locs ls hP hD hS hl h
      rw [it4_s, f_Fo_valueAt_L31] at h
      generalize it4 (f_Fo_valueAt_L31 gFo p3) n = kc_31 at h ih
      refine lv_iload hx hb d_Fo_valueAt_31 (lv_at hl 7 rfl) ?_
      refine lv_iload hx hb d_Fo_valueAt_33 (lv_at hl 6 rfl) ?_
      refine lv_icmp_ge (tgt := 97) hx hb d_Fo_valueAt_35 (by decide) (fun c_7 => ?_) (fun c_7 => ?_)
      · rw [if_pos c_7] at h
        exact K97 v4_31 v5_31 v6_31 v7_31 H locs ls hP hD hS (lv_sub hl [0, 1, 2, 3, 4, 5, 6, 7] rfl) h
      · rw [if_neg c_7] at h
        refine lv_aload_n hx hb d_Fo_valueAt_38 rfl (lv_at hl 0 rfl) ?_
        refine va_get (ci := 1) (v := .ref (xFo 4)) (C := R_Fo) (T := F_Fo) (N := 5) hx hb hts i_Fo hown hK hP 0 rfl rfl 3 (by decide) (hts _ m_87) (fun _ h9 => h9) rfl d_Fo_valueAt_39 ?_
        refine lv_iload hx hb d_Fo_valueAt_42 (lv_at hl 7 rfl) ?_
        obtain ⟨hi_8, h⟩ := gb_i h
        refine va_iald hx hb hK hP 4 0 rfl rfl (inb_in hi_8) d_Fo_valueAt_44 ?_
        obtain ⟨x_9, ex_9, h⟩ := letb_i h
        refine lv_topn ex_9 ?_
        refine lv_iload_n hx hb d_Fo_valueAt_45 rfl (lv_at hl 3 rfl) ?_
        refine lv_icmp_ne (tgt := 57) hx hb d_Fo_valueAt_46 (by decide) (fun c_10 => ?_) (fun c_10 => ?_)
        · rw [if_neg c_10] at h
          refine lv_aload_n hx hb d_Fo_valueAt_57 rfl (lv_at hl 0 rfl) ?_
          refine va_get (ci := 1) (v := .ref (xFo 4)) (C := R_Fo) (T := F_Fo) (N := 5) hx hb hts i_Fo hown hK hP 0 rfl rfl 3 (by decide) (hts _ m_87) (fun _ h9 => h9) rfl d_Fo_valueAt_58 ?_
          refine lv_iload hx hb d_Fo_valueAt_61 (lv_at hl 7 rfl) ?_
          obtain ⟨hi_11, h⟩ := gb_i h
          refine va_iald hx hb hK hP 4 0 rfl rfl (inb_in hi_11) d_Fo_valueAt_63 ?_
          obtain ⟨x_12, ex_12, h⟩ := letb_i h
          refine lv_topn ex_12 ?_
          refine lv_iload_n hx hb d_Fo_valueAt_64 rfl (lv_at hl 3 rfl) ?_
          refine lv_icmp_le (tgt := 91) hx hb d_Fo_valueAt_65 (by decide) (fun c_13 => ?_) (fun c_13 => ?_)
          · rw [if_pos c_13] at h
            obtain ⟨x_14, ex_14, h⟩ := letb_i h
            refine lv_iinc (v := x_14) (lv' := [(7, .int x_14), (0, .ref (xFo 0)), (1, .int p1), (2, .int p2), (3, .int p3), (4, .int v4_31), (5, .int v5_31), (6, .int v6_31)]) hx hb d_Fo_valueAt_91 hl (k := 7) rfl (by rw [ex_14]; rfl) (by decide) rfl (fun ls hl => ?_)
            refine lv_goto (tgt := 31) hx hb d_Fo_valueAt_94 (by decide) ?_
            exact ih v4_31 v5_31 v6_31 x_14 H locs ls hP hD hS (lv_sub hl [1, 2, 3, 4, 5, 6, 7, 0] rfl) h
          · rw [if_neg c_13] at h
            refine lv_iload hx hb d_Fo_valueAt_68 (lv_at hl 7 rfl) ?_
            refine lv_iload hx hb d_Fo_valueAt_70 (lv_at hl 5 rfl) ?_
            refine lv_icmp_ne (tgt := 79) hx hb d_Fo_valueAt_72 (by decide) (fun c_15 => ?_) (fun c_15 => ?_)
            · rw [if_neg c_15] at h
              refine lv_aload_n hx hb d_Fo_valueAt_79 rfl (lv_at hl 0 rfl) ?_
              refine lv_iload hx hb d_Fo_valueAt_80 (lv_at hl 7 rfl) ?_
              refine lv_iconst (v := 1) hx hb d_Fo_valueAt_82 (by decide) ?_
              refine lv_isub hx hb d_Fo_valueAt_83 ?_
              refine lv_iload hx hb d_Fo_valueAt_84 (lv_at hl 7 rfl) ?_
              refine lv_iload_n hx hb d_Fo_valueAt_86 rfl (lv_at hl 3 rfl) ?_
              obtain ⟨r_16, hc_17, h⟩ := xv1_i h
              refine cVi (ws' := (wFo xFo cI cZ gFo)) (As := [.int (v7_31 - 1), .int v7_31, .int p3]) (rest := []) C0 hP hD hS hl.1 [0, 1, 2, 3, 4, 5] (c_Fo_valueBetween_r l D cI cZ cJ xFo H.size gFo (v7_31 - 1) v7_31 p3 r_16 hc_17) k_Fo_valueBetween m_403 rfl rfl rfl rfl rfl (rp_same rfl) ⟨by decide, by decide⟩ ⟨rfl, rfl⟩ rfl (Nat.le_of_ble_eq_true rfl) d_Fo_valueAt_87 ⟨Nat.zero_le _, Nat.zero_le _⟩ (fun H locs hP hD hS => ?_)
              cases h
              rw [hQ]
              exact mi_ret C0 hr rfl hlk hP hD hS d_Fo_valueAt_90
            · rw [if_pos c_15] at h
              refine lv_iconst (v := (-1)) hx hb d_Fo_valueAt_75 (by decide) ?_
              refine lv_goto (tgt := 90) hx hb d_Fo_valueAt_76 (by decide) ?_
              cases h
              rw [hQ]
              exact mi_ret C0 hr rfl hlk hP hD hS d_Fo_valueAt_90
        · rw [if_pos c_10] at h
          refine lv_aload_n hx hb d_Fo_valueAt_49 rfl (lv_at hl 0 rfl) ?_
          refine va_get (ci := 1) (v := .ref (xFo 5)) (C := R_Fo) (T := F_Fo) (N := 5) hx hb hts i_Fo hown hK hP 0 rfl rfl 4 (by decide) (hts _ m_88) (fun _ h9 => h9) rfl d_Fo_valueAt_50 ?_
          refine lv_iload hx hb d_Fo_valueAt_53 (lv_at hl 7 rfl) ?_
          obtain ⟨hi_18, h⟩ := gb_i h
          refine va_iald hx hb hK hP 5 0 rfl rfl (inb_in hi_18) d_Fo_valueAt_55 ?_
          obtain ⟨x_19, ex_19, h⟩ := letb_i h
          refine lv_topn ex_19 ?_
          cases h
          rw [hQ]
          exact mi_ret C0 hr rfl hlk hP hD hS d_Fo_valueAt_56
  exact K31 FU r_1 x_3 x_6 x_3 H locs ls hP hD hS (lv_sub hl [4, 5, 6, 7, 3, 2, 1, 0] rfl) h
abbrev rm_Fo_valueAt_t : Room := { frames := 8, cells := 1, slots := 6, locals := 125 }
set_option maxRecDepth 100000 in
set_option maxHeartbeats 4000000 in
theorem c_Fo_valueAt_t (l : Launch) (hltr : l.stackTraces = false) (D : va_G) (cI cZ cJ : ClassId) (xFo : Nat → Nat) (sz : Nat) (gFo : St) (p1 : Int32) (p2 : Int32) (p3 : Int32) (E : String) (h : f_Fo_valueAt gFo p1 p2 p3 = some (.inr E)) : MT l y_Fo_valueAt b_Fo_valueAt 8 (some .int) rm_Fo_valueAt_t D (TYS cI cZ cJ) [.ref (xFo 0), .int p1, .int p2, .int p3] (wFo xFo cI cZ gFo) sz E := by
  refine mt_start (own := R_Fo) (by decide +kernel) rfl (Nat.le_of_ble_eq_true rfl) (fun p e s m args below meth c A ls C0 hAe hno hlk hP hD hS hl => ?_)
  obtain ⟨Q, hQ⟩ : ∃ Q, Q = QT below D (TYS cI cZ cJ) (wFo xFo cI cZ gFo) E args s := ⟨_, rfl⟩
  rw [← hQ]
  obtain ⟨hx, hb, -, hown, hts, hK, hE, -⟩ := id C0
  have hl : lv_has ls 8 [(0, .ref (xFo 0)), (1, .int p1), (2, .int p2), (3, .int p3)] := hl
  obtain ⟨H, hH⟩ : ∃ H, H = s.heap := ⟨_, rfl⟩
  have hP : va_P D vwCl (wFo xFo cI cZ gFo) H := by rw [hH]; exact hP
  have hS : va_S A s.heap H [] := by rw [hH]; exact hS
  rw [show W p l e rm_Fo_valueAt_t s m args below meth c s.heap = W p l e rm_Fo_valueAt_t s m args below meth c H by rw [hH]]
  generalize ([] : List Loc) = locs at hS ⊢
  unfold f_Fo_valueAt at h
  refine lv_aload_n hx hb d_Fo_valueAt_0 rfl (lv_at hl 0 rfl) ?_
  refine lv_iload_n hx hb d_Fo_valueAt_1 rfl (lv_at hl 1 rfl) ?_
  refine lv_iload_n hx hb d_Fo_valueAt_2 rfl (lv_at hl 2 rfl) ?_
  obtain ⟨r_1, hc_2, h⟩ | ⟨E9, hc_2, h⟩ := xc1_i h
  rotate_left
  · cases h
    rw [hQ]
    exact x_out C0 hAe hno hlk hP hD hS [0, 1, 2, 3, 4, 5] rfl rfl rfl (rV (As := [.int p1, .int p2]) (rest := []) C0 hP hD hS hl.1 [0, 1, 2, 3, 4, 5] (c_Fo_placeOf_t l hltr D cI cZ cJ xFo H.size gFo p1 p2 E hc_2) k_Fo_placeOf m_388 rfl rfl rfl rfl ⟨by decide, by decide⟩ ⟨rfl, rfl⟩ rfl (Nat.le_of_ble_eq_true rfl) d_Fo_valueAt_3 ⟨by decide, by decide⟩) ⟨rfl, rfl⟩
  refine cVi (ws' := (wFo xFo cI cZ gFo)) (As := [.int p1, .int p2]) (rest := []) C0 hP hD hS hl.1 [0, 1, 2, 3, 4, 5] (c_Fo_placeOf_r l D cI cZ cJ xFo H.size gFo p1 p2 r_1 hc_2) k_Fo_placeOf m_388 rfl rfl rfl rfl rfl (rp_same rfl) ⟨by decide, by decide⟩ ⟨rfl, rfl⟩ rfl (Nat.le_of_ble_eq_true rfl) d_Fo_valueAt_3 ⟨Nat.zero_le _, Nat.zero_le _⟩ (fun H locs hP hD hS => ?_)
  refine lv_istore (lv' := [(4, .int r_1), (0, .ref (xFo 0)), (1, .int p1), (2, .int p2), (3, .int p3)]) hx hb d_Fo_valueAt_6 hl (by decide) rfl (fun ls hl => ?_)
  refine lv_iload hx hb d_Fo_valueAt_8 (lv_at hl 0 rfl) ?_
  refine lv_bipush (v := 6) hx hb d_Fo_valueAt_10 (by decide) ?_
  refine lv_imul hx hb d_Fo_valueAt_12 ?_
  obtain ⟨x_3, ex_3, h⟩ := letb_i h
  refine lv_topn ex_3 ?_
  refine lv_istore (lv' := [(5, .int x_3), (4, .int r_1), (0, .ref (xFo 0)), (1, .int p1), (2, .int p2), (3, .int p3)]) hx hb d_Fo_valueAt_13 hl (by decide) rfl (fun ls hl => ?_)
  refine lv_iload hx hb d_Fo_valueAt_15 (lv_at hl 0 rfl) ?_
  refine lv_aload_n hx hb d_Fo_valueAt_17 rfl (lv_at hl 2 rfl) ?_
  refine va_get (ci := 1) (v := .ref (xFo 3)) (C := R_Fo) (T := F_Fo) (N := 5) hx hb hts i_Fo hown hK hP 0 rfl rfl 2 (by decide) (hts _ m_86) (fun _ h9 => h9) rfl d_Fo_valueAt_18 ?_
  refine lv_iload hx hb d_Fo_valueAt_21 (lv_at hl 1 rfl) ?_
  obtain ⟨hi_4, h⟩ := gb_i h
  refine va_iald hx hb hK hP 3 0 rfl rfl (inb_in hi_4) d_Fo_valueAt_23 ?_
  obtain ⟨x_5, ex_5, h⟩ := letb_i h
  refine lv_topn ex_5 ?_
  refine lv_iadd hx hb d_Fo_valueAt_24 ?_
  obtain ⟨x_6, ex_6, h⟩ := letb_i h
  refine lv_topn ex_6 ?_
  refine lv_istore (lv' := [(6, .int x_6), (5, .int x_3), (4, .int r_1), (0, .ref (xFo 0)), (1, .int p1), (2, .int p2), (3, .int p3)]) hx hb d_Fo_valueAt_25 hl (by decide) rfl (fun ls hl => ?_)
  refine lv_iload hx hb d_Fo_valueAt_27 (lv_at hl 1 rfl) ?_
  refine lv_istore (lv' := [(7, .int x_3), (6, .int x_6), (5, .int x_3), (4, .int r_1), (0, .ref (xFo 0)), (1, .int p1), (2, .int p2), (3, .int p3)]) hx hb d_Fo_valueAt_29 hl (by decide) rfl (fun ls hl => ?_)
  have K97 : ∀ (v4_97 : Int32) (v5_97 : Int32) (v6_97 : Int32) (v7_97 : Int32) (H : Heap) (locs : List Loc) (ls : Array Slot), va_P D vwCl (wFo xFo cI cZ gFo) H → va_D A (wFo xFo cI cZ gFo) → va_S A s.heap H locs → lv_has ls 8 [(0, .ref (xFo 0)), (1, .int p1), (2, .int p2), (3, .int p3), (4, .int v4_97), (5, .int v5_97), (6, .int v6_97), (7, .int v7_97)] → f_Fo_valueAt_X97 v4_97 v5_97 v6_97 v7_97 = some (.inr E) → W p l e rm_Fo_valueAt_t s m args below meth c H locs 0 0 Q (F0 m 97 ls []) := by
    intro v4_97 v5_97 v6_97 v7_97 H locs ls hP hD hS hl h
    unfold f_Fo_valueAt_X97 at h
    refine lv_iconst (v := (-1)) hx hb d_Fo_valueAt_97 (by decide) ?_
    cases h
  have K31 : ∀ (n : Nat) (v4_31 : Int32) (v5_31 : Int32) (v6_31 : Int32) (v7_31 : Int32) (H : Heap) (locs : List Loc) (ls : Array Slot), va_P D vwCl (wFo xFo cI cZ gFo) H → va_D A (wFo xFo cI cZ gFo) → va_S A s.heap H locs → lv_has ls 8 [(0, .ref (xFo 0)), (1, .int p1), (2, .int p2), (3, .int p3), (4, .int v4_31), (5, .int v5_31), (6, .int v6_31), (7, .int v7_31)] → it4 (f_Fo_valueAt_L31 gFo p3) n v4_31 v5_31 v6_31 v7_31 = some (.inr E) → W p l e rm_Fo_valueAt_t s m args below meth c H locs 0 0 Q (F0 m 31 ls []) := by
    intro n
    induction n with
    | zero => intro v4_31 v5_31 v6_31 v7_31 H locs ls hP hD hS hl h; exact (it4_0 h).elim
    | succ n ih =>
      intro v4_31 v5_31 v6_31 v7_31 H locs ls hP hD hS hl h
      rw [it4_s, f_Fo_valueAt_L31] at h
      generalize it4 (f_Fo_valueAt_L31 gFo p3) n = kc_31 at h ih
      refine lv_iload hx hb d_Fo_valueAt_31 (lv_at hl 7 rfl) ?_
      refine lv_iload hx hb d_Fo_valueAt_33 (lv_at hl 6 rfl) ?_
      refine lv_icmp_ge (tgt := 97) hx hb d_Fo_valueAt_35 (by decide) (fun c_7 => ?_) (fun c_7 => ?_)
      · rw [if_pos c_7] at h
        exact K97 v4_31 v5_31 v6_31 v7_31 H locs ls hP hD hS (lv_sub hl [0, 1, 2, 3, 4, 5, 6, 7] rfl) h
      · rw [if_neg c_7] at h
        refine lv_aload_n hx hb d_Fo_valueAt_38 rfl (lv_at hl 0 rfl) ?_
        refine va_get (ci := 1) (v := .ref (xFo 4)) (C := R_Fo) (T := F_Fo) (N := 5) hx hb hts i_Fo hown hK hP 0 rfl rfl 3 (by decide) (hts _ m_87) (fun _ h9 => h9) rfl d_Fo_valueAt_39 ?_
        refine lv_iload hx hb d_Fo_valueAt_42 (lv_at hl 7 rfl) ?_
        obtain ⟨hi_8, h⟩ := gb_i h
        refine va_iald hx hb hK hP 4 0 rfl rfl (inb_in hi_8) d_Fo_valueAt_44 ?_
        obtain ⟨x_9, ex_9, h⟩ := letb_i h
        refine lv_topn ex_9 ?_
        refine lv_iload_n hx hb d_Fo_valueAt_45 rfl (lv_at hl 3 rfl) ?_
        refine lv_icmp_ne (tgt := 57) hx hb d_Fo_valueAt_46 (by decide) (fun c_10 => ?_) (fun c_10 => ?_)
        · rw [if_neg c_10] at h
          refine lv_aload_n hx hb d_Fo_valueAt_57 rfl (lv_at hl 0 rfl) ?_
          refine va_get (ci := 1) (v := .ref (xFo 4)) (C := R_Fo) (T := F_Fo) (N := 5) hx hb hts i_Fo hown hK hP 0 rfl rfl 3 (by decide) (hts _ m_87) (fun _ h9 => h9) rfl d_Fo_valueAt_58 ?_
          refine lv_iload hx hb d_Fo_valueAt_61 (lv_at hl 7 rfl) ?_
          obtain ⟨hi_11, h⟩ := gb_i h
          refine va_iald hx hb hK hP 4 0 rfl rfl (inb_in hi_11) d_Fo_valueAt_63 ?_
          obtain ⟨x_12, ex_12, h⟩ := letb_i h
          refine lv_topn ex_12 ?_
          refine lv_iload_n hx hb d_Fo_valueAt_64 rfl (lv_at hl 3 rfl) ?_
          refine lv_icmp_le (tgt := 91) hx hb d_Fo_valueAt_65 (by decide) (fun c_13 => ?_) (fun c_13 => ?_)
          · rw [if_pos c_13] at h
            obtain ⟨x_14, ex_14, h⟩ := letb_i h
            refine lv_iinc (v := x_14) (lv' := [(7, .int x_14), (0, .ref (xFo 0)), (1, .int p1), (2, .int p2), (3, .int p3), (4, .int v4_31), (5, .int v5_31), (6, .int v6_31)]) hx hb d_Fo_valueAt_91 hl (k := 7) rfl (by rw [ex_14]; rfl) (by decide) rfl (fun ls hl => ?_)
            refine lv_goto (tgt := 31) hx hb d_Fo_valueAt_94 (by decide) ?_
            exact ih v4_31 v5_31 v6_31 x_14 H locs ls hP hD hS (lv_sub hl [1, 2, 3, 4, 5, 6, 7, 0] rfl) h
          · rw [if_neg c_13] at h
            refine lv_iload hx hb d_Fo_valueAt_68 (lv_at hl 7 rfl) ?_
            refine lv_iload hx hb d_Fo_valueAt_70 (lv_at hl 5 rfl) ?_
            refine lv_icmp_ne (tgt := 79) hx hb d_Fo_valueAt_72 (by decide) (fun c_15 => ?_) (fun c_15 => ?_)
            · rw [if_neg c_15] at h
              refine lv_aload_n hx hb d_Fo_valueAt_79 rfl (lv_at hl 0 rfl) ?_
              refine lv_iload hx hb d_Fo_valueAt_80 (lv_at hl 7 rfl) ?_
              refine lv_iconst (v := 1) hx hb d_Fo_valueAt_82 (by decide) ?_
              refine lv_isub hx hb d_Fo_valueAt_83 ?_
              refine lv_iload hx hb d_Fo_valueAt_84 (lv_at hl 7 rfl) ?_
              refine lv_iload_n hx hb d_Fo_valueAt_86 rfl (lv_at hl 3 rfl) ?_
              obtain ⟨r_16, hc_17, h⟩ := xv1_i h
              refine cVi (ws' := (wFo xFo cI cZ gFo)) (As := [.int (v7_31 - 1), .int v7_31, .int p3]) (rest := []) C0 hP hD hS hl.1 [0, 1, 2, 3, 4, 5] (c_Fo_valueBetween_r l D cI cZ cJ xFo H.size gFo (v7_31 - 1) v7_31 p3 r_16 hc_17) k_Fo_valueBetween m_403 rfl rfl rfl rfl rfl (rp_same rfl) ⟨by decide, by decide⟩ ⟨rfl, rfl⟩ rfl (Nat.le_of_ble_eq_true rfl) d_Fo_valueAt_87 ⟨Nat.zero_le _, Nat.zero_le _⟩ (fun H locs hP hD hS => ?_)
              cases h
            · rw [if_pos c_15] at h
              refine lv_iconst (v := (-1)) hx hb d_Fo_valueAt_75 (by decide) ?_
              refine lv_goto (tgt := 90) hx hb d_Fo_valueAt_76 (by decide) ?_
              cases h
        · rw [if_pos c_10] at h
          refine lv_aload_n hx hb d_Fo_valueAt_49 rfl (lv_at hl 0 rfl) ?_
          refine va_get (ci := 1) (v := .ref (xFo 5)) (C := R_Fo) (T := F_Fo) (N := 5) hx hb hts i_Fo hown hK hP 0 rfl rfl 4 (by decide) (hts _ m_88) (fun _ h9 => h9) rfl d_Fo_valueAt_50 ?_
          refine lv_iload hx hb d_Fo_valueAt_53 (lv_at hl 7 rfl) ?_
          obtain ⟨hi_18, h⟩ := gb_i h
          refine va_iald hx hb hK hP 5 0 rfl rfl (inb_in hi_18) d_Fo_valueAt_55 ?_
          obtain ⟨x_19, ex_19, h⟩ := letb_i h
          refine lv_topn ex_19 ?_
          cases h
  exact K31 FU r_1 x_3 x_6 x_3 H locs ls hP hD hS (lv_sub hl [4, 5, 6, 7, 3, 2, 1, 0] rfl) h
abbrev rm_Fo_leastThickness_r : Room := { frames := 3, cells := 0, slots := 0, locals := 74 }
set_option maxRecDepth 100000 in
set_option maxHeartbeats 4000000 in
theorem c_Fo_leastThickness_r (l : Launch) (D : va_G) (cI cZ cJ : ClassId) (xFo : Nat → Nat) (sz : Nat) (gFo : St) (p1 : Int32) (p2 : Int32) (p3 : Int32) (r : Int32) (h : f_Fo_leastThickness gFo p1 p2 p3 = some (.inl r)) : MI l y_Fo_leastThickness b_Fo_leastThickness 9 (some .int) rm_Fo_leastThickness_r D (TYS cI cZ cJ) [.ref (xFo 0), .int p1, .int p2, .int p3] (wFo xFo cI cZ gFo) sz r (wFo xFo cI cZ gFo) := by
  refine mi_start (own := R_Fo) (by decide +kernel) rfl (Nat.le_of_ble_eq_true rfl) (fun p e s m args below meth c A ls C0 hr hlk hP hD hS hl => ?_)
  obtain ⟨Q, hQ⟩ : ∃ Q, Q = QI below D (TYS cI cZ cJ) A (wFo xFo cI cZ gFo) r args s := ⟨_, rfl⟩
  rw [← hQ]
  obtain ⟨hx, hb, -, hown, hts, hK, hE, -⟩ := id C0
  have hl : lv_has ls 9 [(0, .ref (xFo 0)), (1, .int p1), (2, .int p2), (3, .int p3)] := hl
  obtain ⟨H, hH⟩ : ∃ H, H = s.heap := ⟨_, rfl⟩
  have hP : va_P D vwCl (wFo xFo cI cZ gFo) H := by rw [hH]; exact hP
  have hS : va_S A s.heap H [] := by rw [hH]; exact hS
  rw [show W p l e rm_Fo_leastThickness_r s m args below meth c s.heap = W p l e rm_Fo_leastThickness_r s m args below meth c H by rw [hH]]
  generalize ([] : List Loc) = locs at hS ⊢
  unfold f_Fo_leastThickness at h
  refine lv_iload_n hx hb d_Fo_leastThickness_0 rfl (lv_at hl 1 rfl) ?_
  refine lv_iconst (v := 4) hx hb d_Fo_leastThickness_1 (by decide) ?_
  obtain ⟨hc_1, h⟩ | ⟨E9, hc_1, h⟩ := xc0_i h
  rotate_left
  · cases h
  refine cNv (ws' := (wFo xFo cI cZ gFo)) (As := [.int p1, .int 4]) (rest := []) C0 hP hD hS hl.1 [] (c_Cc_requireIndex_r l D cI cZ cJ  H.size p1 4 hc_1) k_Cc_requireIndex (List.mem_of_getElem? (i := 3) rfl) rfl rfl rfl (rp_same rfl) ⟨by decide, by decide⟩ ⟨rfl, rfl⟩ rfl (Nat.le_of_ble_eq_true rfl) d_Fo_leastThickness_2 ⟨Nat.zero_le _, Nat.zero_le _⟩ (fun H locs hP hD hS => ?_)
  refine lv_aload_n hx hb d_Fo_leastThickness_5 rfl (lv_at hl 0 rfl) ?_
  refine va_get (ci := 1) (v := .ref (xFo 1)) (C := R_Fo) (T := F_Fo) (N := 5) hx hb hts i_Fo hown hK hP 0 rfl rfl 0 (by decide) (hts _ m_84) (fun _ h9 => h9) rfl d_Fo_leastThickness_6 ?_
  refine lv_iload_n hx hb d_Fo_leastThickness_9 rfl (lv_at hl 1 rfl) ?_
  obtain ⟨hi_2, h⟩ := gb_i h
  refine va_iald hx hb hK hP 1 0 rfl rfl (inb_in hi_2) d_Fo_leastThickness_10 ?_
  obtain ⟨x_3, ex_3, h⟩ := letb_i h
  refine lv_topn ex_3 ?_
  refine lv_istore (lv' := [(4, .int x_3), (0, .ref (xFo 0)), (1, .int p1), (2, .int p2), (3, .int p3)]) hx hb d_Fo_leastThickness_11 hl (by decide) rfl (fun ls hl => ?_)
  refine lv_iconst (v := 0) hx hb d_Fo_leastThickness_13 (by decide) ?_
  refine lv_istore (lv' := [(5, .int 0), (4, .int x_3), (0, .ref (xFo 0)), (1, .int p1), (2, .int p2), (3, .int p3)]) hx hb d_Fo_leastThickness_14 hl (by decide) rfl (fun ls hl => ?_)
  refine lv_iload hx hb d_Fo_leastThickness_16 (lv_at hl 1 rfl) ?_
  refine lv_istore (lv' := [(6, .int x_3), (5, .int 0), (4, .int x_3), (0, .ref (xFo 0)), (1, .int p1), (2, .int p2), (3, .int p3)]) hx hb d_Fo_leastThickness_18 hl (by decide) rfl (fun ls hl => ?_)
  have K74 : ∀ (v4_74 : Int32) (v5_74 : Int32) (v6_74 : Int32) (H : Heap) (locs : List Loc) (ls : Array Slot), va_P D vwCl (wFo xFo cI cZ gFo) H → va_D A (wFo xFo cI cZ gFo) → va_S A s.heap H locs → lv_has ls 9 [(0, .ref (xFo 0)), (1, .int p1), (2, .int p2), (3, .int p3), (4, .int v4_74), (5, .int v5_74), (6, .int v6_74)] → f_Fo_leastThickness_X74 gFo p1 v4_74 v5_74 v6_74 = some (.inl r) → W p l e rm_Fo_leastThickness_r s m args below meth c H locs 0 0 Q (F0 m 74 ls []) := by
    intro v4_74 v5_74 v6_74 H locs ls hP hD hS hl h
    unfold f_Fo_leastThickness_X74 at h
    refine lv_iload hx hb d_Fo_leastThickness_74 (lv_at hl 5 rfl) ?_
    refine lv_iload hx hb d_Fo_leastThickness_76 (lv_at hl 4 rfl) ?_
    refine lv_icmp_ge (tgt := 96) hx hb d_Fo_leastThickness_78 (by decide) (fun c_4 => ?_) (fun c_4 => ?_)
    · rw [if_pos c_4] at h
      refine lv_iconst (v := (-1)) hx hb d_Fo_leastThickness_96 (by decide) ?_
      cases h
      rw [hQ]
      exact mi_ret C0 hr rfl hlk hP hD hS d_Fo_leastThickness_97
    · rw [if_neg c_4] at h
      refine lv_aload_n hx hb d_Fo_leastThickness_81 rfl (lv_at hl 0 rfl) ?_
      refine va_get (ci := 1) (v := .ref (xFo 2)) (C := R_Fo) (T := F_Fo) (N := 5) hx hb hts i_Fo hown hK hP 0 rfl rfl 1 (by decide) (hts _ m_85) (fun _ h9 => h9) rfl d_Fo_leastThickness_82 ?_
      refine lv_iload_n hx hb d_Fo_leastThickness_85 rfl (lv_at hl 1 rfl) ?_
      refine lv_bipush (v := 8) hx hb d_Fo_leastThickness_86 (by decide) ?_
      refine lv_imul hx hb d_Fo_leastThickness_88 ?_
      refine lv_iload hx hb d_Fo_leastThickness_89 (lv_at hl 5 rfl) ?_
      refine lv_iadd hx hb d_Fo_leastThickness_91 ?_
      obtain ⟨hi_5, h⟩ := gb_i h
      refine va_iald hx hb hK hP 2 0 rfl rfl (inb_in hi_5) d_Fo_leastThickness_92 ?_
      obtain ⟨x_6, ex_6, h⟩ := letb_i h
      refine lv_topn ex_6 ?_
      refine lv_goto (tgt := 97) hx hb d_Fo_leastThickness_93 (by decide) ?_
      cases h
      rw [hQ]
      exact mi_ret C0 hr rfl hlk hP hD hS d_Fo_leastThickness_97
  have K20 : ∀ (n : Nat) (v4_20 : Int32) (v5_20 : Int32) (v6_20 : Int32) (H : Heap) (locs : List Loc) (ls : Array Slot), va_P D vwCl (wFo xFo cI cZ gFo) H → va_D A (wFo xFo cI cZ gFo) → va_S A s.heap H locs → lv_has ls 9 [(0, .ref (xFo 0)), (1, .int p1), (2, .int p2), (3, .int p3), (4, .int v4_20), (5, .int v5_20), (6, .int v6_20)] → it3 (f_Fo_leastThickness_L20 gFo p1 p2 p3) n v4_20 v5_20 v6_20 = some (.inl r) → W p l e rm_Fo_leastThickness_r s m args below meth c H locs 0 0 Q (F0 m 20 ls []) := by
    intro n
    induction n with
    | zero => intro v4_20 v5_20 v6_20 H locs ls hP hD hS hl h; exact (it3_0 h).elim
    | succ n ih =>
      intro v4_20 v5_20 v6_20 H locs ls hP hD hS hl h
      rw [it3_s, f_Fo_leastThickness_L20] at h
      generalize it3 (f_Fo_leastThickness_L20 gFo p1 p2 p3) n = kc_20 at h ih
      refine lv_iload hx hb d_Fo_leastThickness_20 (lv_at hl 5 rfl) ?_
      refine lv_iload hx hb d_Fo_leastThickness_22 (lv_at hl 6 rfl) ?_
      refine lv_icmp_ge (tgt := 74) hx hb d_Fo_leastThickness_24 (by decide) (fun c_7 => ?_) (fun c_7 => ?_)
      · rw [if_pos c_7] at h
        exact K74 v4_20 v5_20 v6_20 H locs ls hP hD hS (lv_sub hl [0, 1, 2, 3, 4, 5, 6] rfl) h
      · rw [if_neg c_7] at h
        refine lv_iload hx hb d_Fo_leastThickness_27 (lv_at hl 5 rfl) ?_
        refine lv_iload hx hb d_Fo_leastThickness_29 (lv_at hl 6 rfl) ?_
        refine lv_iadd hx hb d_Fo_leastThickness_31 ?_
        refine lv_iconst (v := 2) hx hb d_Fo_leastThickness_32 (by decide) ?_
        refine lv_idiv hx hb d_Fo_leastThickness_33 (by decide) ?_
        obtain ⟨x_8, ex_8, h⟩ := letb_i h
        refine lv_topn ex_8 ?_
        refine lv_istore (lv' := [(7, .int x_8), (0, .ref (xFo 0)), (1, .int p1), (2, .int p2), (3, .int p3), (4, .int v4_20), (5, .int v5_20), (6, .int v6_20)]) hx hb d_Fo_leastThickness_34 hl (by decide) rfl (fun ls hl => ?_)
        refine lv_aload_n hx hb d_Fo_leastThickness_36 rfl (lv_at hl 1 rfl) ?_
        refine lv_iload_n hx hb d_Fo_leastThickness_37 rfl (lv_at hl 2 rfl) ?_
        refine lv_iload hx hb d_Fo_leastThickness_38 (lv_at hl 0 rfl) ?_
        refine lv_iload_n hx hb d_Fo_leastThickness_40 rfl (lv_at hl 3 rfl) ?_
        obtain ⟨r_9, hc_10, h⟩ | ⟨E9, hc_10, h⟩ := xc1_i h
        rotate_left
        · cases h
        refine cVi (ws' := (wFo xFo cI cZ gFo)) (As := [.int p1, .int x_8, .int p2]) (rest := []) C0 hP hD hS hl.1 [0, 1, 2, 3, 4, 5] (c_Fo_valueAt_r l D cI cZ cJ xFo H.size gFo p1 x_8 p2 r_9 hc_10) k_Fo_valueAt m_421 rfl rfl rfl rfl rfl (rp_same rfl) ⟨by decide, by decide⟩ ⟨rfl, rfl⟩ rfl (Nat.le_of_ble_eq_true rfl) d_Fo_leastThickness_41 ⟨Nat.zero_le _, Nat.zero_le _⟩ (fun H locs hP hD hS => ?_)
        refine lv_istore (lv' := [(8, .int r_9), (7, .int x_8), (0, .ref (xFo 0)), (1, .int p1), (2, .int p2), (3, .int p3), (4, .int v4_20), (5, .int v5_20), (6, .int v6_20)]) hx hb d_Fo_leastThickness_44 hl (by decide) rfl (fun ls hl => ?_)
        refine lv_iload hx hb d_Fo_leastThickness_46 (lv_at hl 0 rfl) ?_
        refine lv_iconst (v := (-1)) hx hb d_Fo_leastThickness_48 (by decide) ?_
        have K71 : ∀ (v4_71 : Int32) (v5_71 : Int32) (v6_71 : Int32) (v7_71 : Int32) (v8_71 : Int32) (H : Heap) (locs : List Loc) (ls : Array Slot), va_P D vwCl (wFo xFo cI cZ gFo) H → va_D A (wFo xFo cI cZ gFo) → va_S A s.heap H locs → lv_has ls 9 [(0, .ref (xFo 0)), (1, .int p1), (2, .int p2), (3, .int p3), (4, .int v4_71), (5, .int v5_71), (6, .int v6_71), (7, .int v7_71), (8, .int v8_71)] → f_Fo_leastThickness_J71 kc_20 v4_71 v5_71 v6_71 v7_71 v8_71 = some (.inl r) → W p l e rm_Fo_leastThickness_r s m args below meth c H locs 0 0 Q (F0 m 71 ls []) := by
          intro v4_71 v5_71 v6_71 v7_71 v8_71 H locs ls hP hD hS hl h
          unfold f_Fo_leastThickness_J71 at h
          refine lv_goto (tgt := 20) hx hb d_Fo_leastThickness_71 (by decide) ?_
          exact ih v4_71 v5_71 v6_71 H locs ls hP hD hS (lv_sub hl [0, 1, 2, 3, 4, 5, 6] rfl) h
        have K65 : ∀ (v4_65 : Int32) (v5_65 : Int32) (v6_65 : Int32) (v7_65 : Int32) (v8_65 : Int32) (H : Heap) (locs : List Loc) (ls : Array Slot), va_P D vwCl (wFo xFo cI cZ gFo) H → va_D A (wFo xFo cI cZ gFo) → va_S A s.heap H locs → lv_has ls 9 [(0, .ref (xFo 0)), (1, .int p1), (2, .int p2), (3, .int p3), (4, .int v4_65), (5, .int v5_65), (6, .int v6_65), (7, .int v7_65), (8, .int v8_65)] → f_Fo_leastThickness_J65 kc_20 v4_65 v5_65 v6_65 v7_65 v8_65 = some (.inl r) → W p l e rm_Fo_leastThickness_r s m args below meth c H locs 0 0 Q (F0 m 65 ls []) := by
          intro v4_65 v5_65 v6_65 v7_65 v8_65 H locs ls hP hD hS hl h
          unfold f_Fo_leastThickness_J65 at h
          refine lv_iload hx hb d_Fo_leastThickness_65 (lv_at hl 7 rfl) ?_
          refine lv_iconst (v := 1) hx hb d_Fo_leastThickness_67 (by decide) ?_
          refine lv_iadd hx hb d_Fo_leastThickness_68 ?_
          obtain ⟨x_11, ex_11, h⟩ := letb_i h
          refine lv_topn ex_11 ?_
          refine lv_istore (lv' := [(5, .int x_11), (0, .ref (xFo 0)), (1, .int p1), (2, .int p2), (3, .int p3), (4, .int v4_65), (6, .int v6_65), (7, .int v7_65), (8, .int v8_65)]) hx hb d_Fo_leastThickness_69 hl (by decide) rfl (fun ls hl => ?_)
          exact K71 v4_65 x_11 v6_65 v7_65 v8_65 H locs ls hP hD hS (lv_sub hl [1, 2, 3, 4, 5, 0, 6, 7, 8] rfl) h
        refine lv_icmp_eq (tgt := 65) hx hb d_Fo_leastThickness_49 (by decide) (fun c_12 => ?_) (fun c_12 => ?_)
        · rw [if_pos c_12] at h
          exact K65 v4_20 v5_20 v6_20 x_8 r_9 H locs ls hP hD hS (lv_sub hl [2, 3, 4, 5, 6, 7, 8, 1, 0] rfl) h
        · rw [if_neg c_12] at h
          refine lv_iload hx hb d_Fo_leastThickness_52 (lv_at hl 0 rfl) ?_
          refine lv_iload_n hx hb d_Fo_leastThickness_54 rfl (lv_at hl 5 rfl) ?_
          refine lv_icmp_gt (tgt := 65) hx hb d_Fo_leastThickness_55 (by decide) (fun c_13 => ?_) (fun c_13 => ?_)
          · rw [if_pos c_13] at h
            exact K65 v4_20 v5_20 v6_20 x_8 r_9 H locs ls hP hD hS (lv_sub hl [2, 3, 4, 5, 6, 7, 8, 1, 0] rfl) h
          · rw [if_neg c_13] at h
            refine lv_iload hx hb d_Fo_leastThickness_58 (lv_at hl 1 rfl) ?_
            refine lv_istore (lv' := [(6, .int x_8), (8, .int r_9), (7, .int x_8), (0, .ref (xFo 0)), (1, .int p1), (2, .int p2), (3, .int p3), (4, .int v4_20), (5, .int v5_20)]) hx hb d_Fo_leastThickness_60 hl (by decide) rfl (fun ls hl => ?_)
            refine lv_goto (tgt := 71) hx hb d_Fo_leastThickness_62 (by decide) ?_
            exact K71 v4_20 v5_20 x_8 x_8 r_9 H locs ls hP hD hS (lv_sub hl [3, 4, 5, 6, 7, 8, 0, 2, 1] rfl) h
  exact K20 FU x_3 0 x_3 H locs ls hP hD hS (lv_sub hl [3, 4, 5, 6, 2, 1, 0] rfl) h
abbrev rm_Fo_leastThickness_t : Room := { frames := 9, cells := 1, slots := 6, locals := 152 }
set_option maxRecDepth 100000 in
set_option maxHeartbeats 4000000 in
theorem c_Fo_leastThickness_t (l : Launch) (hltr : l.stackTraces = false) (D : va_G) (cI cZ cJ : ClassId) (xFo : Nat → Nat) (sz : Nat) (gFo : St) (p1 : Int32) (p2 : Int32) (p3 : Int32) (E : String) (h : f_Fo_leastThickness gFo p1 p2 p3 = some (.inr E)) : MT l y_Fo_leastThickness b_Fo_leastThickness 9 (some .int) rm_Fo_leastThickness_t D (TYS cI cZ cJ) [.ref (xFo 0), .int p1, .int p2, .int p3] (wFo xFo cI cZ gFo) sz E := by
  refine mt_start (own := R_Fo) (by decide +kernel) rfl (Nat.le_of_ble_eq_true rfl) (fun p e s m args below meth c A ls C0 hAe hno hlk hP hD hS hl => ?_)
  obtain ⟨Q, hQ⟩ : ∃ Q, Q = QT below D (TYS cI cZ cJ) (wFo xFo cI cZ gFo) E args s := ⟨_, rfl⟩
  rw [← hQ]
  obtain ⟨hx, hb, -, hown, hts, hK, hE, -⟩ := id C0
  have hl : lv_has ls 9 [(0, .ref (xFo 0)), (1, .int p1), (2, .int p2), (3, .int p3)] := hl
  obtain ⟨H, hH⟩ : ∃ H, H = s.heap := ⟨_, rfl⟩
  have hP : va_P D vwCl (wFo xFo cI cZ gFo) H := by rw [hH]; exact hP
  have hS : va_S A s.heap H [] := by rw [hH]; exact hS
  rw [show W p l e rm_Fo_leastThickness_t s m args below meth c s.heap = W p l e rm_Fo_leastThickness_t s m args below meth c H by rw [hH]]
  generalize ([] : List Loc) = locs at hS ⊢
  unfold f_Fo_leastThickness at h
  refine lv_iload_n hx hb d_Fo_leastThickness_0 rfl (lv_at hl 1 rfl) ?_
  refine lv_iconst (v := 4) hx hb d_Fo_leastThickness_1 (by decide) ?_
  obtain ⟨hc_1, h⟩ | ⟨E9, hc_1, h⟩ := xc0_i h
  rotate_left
  · cases h
    rw [hQ]
    exact x_out C0 hAe hno hlk hP hD hS [] rfl rfl rfl (rN (As := [.int p1, .int 4]) (rest := []) C0 hP hD hS hl.1 [] (c_Cc_requireIndex_t l hltr D cI cZ cJ  H.size p1 4 E hc_1) k_Cc_requireIndex (List.mem_of_getElem? (i := 3) rfl) rfl rfl ⟨by decide, by decide⟩ ⟨rfl, rfl⟩ rfl (Nat.le_of_ble_eq_true rfl) d_Fo_leastThickness_2 ⟨by decide, by decide⟩) ⟨rfl, rfl⟩
  refine cNv (ws' := (wFo xFo cI cZ gFo)) (As := [.int p1, .int 4]) (rest := []) C0 hP hD hS hl.1 [] (c_Cc_requireIndex_r l D cI cZ cJ  H.size p1 4 hc_1) k_Cc_requireIndex (List.mem_of_getElem? (i := 3) rfl) rfl rfl rfl (rp_same rfl) ⟨by decide, by decide⟩ ⟨rfl, rfl⟩ rfl (Nat.le_of_ble_eq_true rfl) d_Fo_leastThickness_2 ⟨Nat.zero_le _, Nat.zero_le _⟩ (fun H locs hP hD hS => ?_)
  refine lv_aload_n hx hb d_Fo_leastThickness_5 rfl (lv_at hl 0 rfl) ?_
  refine va_get (ci := 1) (v := .ref (xFo 1)) (C := R_Fo) (T := F_Fo) (N := 5) hx hb hts i_Fo hown hK hP 0 rfl rfl 0 (by decide) (hts _ m_84) (fun _ h9 => h9) rfl d_Fo_leastThickness_6 ?_
  refine lv_iload_n hx hb d_Fo_leastThickness_9 rfl (lv_at hl 1 rfl) ?_
  obtain ⟨hi_2, h⟩ := gb_i h
  refine va_iald hx hb hK hP 1 0 rfl rfl (inb_in hi_2) d_Fo_leastThickness_10 ?_
  obtain ⟨x_3, ex_3, h⟩ := letb_i h
  refine lv_topn ex_3 ?_
  refine lv_istore (lv' := [(4, .int x_3), (0, .ref (xFo 0)), (1, .int p1), (2, .int p2), (3, .int p3)]) hx hb d_Fo_leastThickness_11 hl (by decide) rfl (fun ls hl => ?_)
  refine lv_iconst (v := 0) hx hb d_Fo_leastThickness_13 (by decide) ?_
  refine lv_istore (lv' := [(5, .int 0), (4, .int x_3), (0, .ref (xFo 0)), (1, .int p1), (2, .int p2), (3, .int p3)]) hx hb d_Fo_leastThickness_14 hl (by decide) rfl (fun ls hl => ?_)
  refine lv_iload hx hb d_Fo_leastThickness_16 (lv_at hl 1 rfl) ?_
  refine lv_istore (lv' := [(6, .int x_3), (5, .int 0), (4, .int x_3), (0, .ref (xFo 0)), (1, .int p1), (2, .int p2), (3, .int p3)]) hx hb d_Fo_leastThickness_18 hl (by decide) rfl (fun ls hl => ?_)
  have K74 : ∀ (v4_74 : Int32) (v5_74 : Int32) (v6_74 : Int32) (H : Heap) (locs : List Loc) (ls : Array Slot), va_P D vwCl (wFo xFo cI cZ gFo) H → va_D A (wFo xFo cI cZ gFo) → va_S A s.heap H locs → lv_has ls 9 [(0, .ref (xFo 0)), (1, .int p1), (2, .int p2), (3, .int p3), (4, .int v4_74), (5, .int v5_74), (6, .int v6_74)] → f_Fo_leastThickness_X74 gFo p1 v4_74 v5_74 v6_74 = some (.inr E) → W p l e rm_Fo_leastThickness_t s m args below meth c H locs 0 0 Q (F0 m 74 ls []) := by
    intro v4_74 v5_74 v6_74 H locs ls hP hD hS hl h
    unfold f_Fo_leastThickness_X74 at h
    refine lv_iload hx hb d_Fo_leastThickness_74 (lv_at hl 5 rfl) ?_
    refine lv_iload hx hb d_Fo_leastThickness_76 (lv_at hl 4 rfl) ?_
    refine lv_icmp_ge (tgt := 96) hx hb d_Fo_leastThickness_78 (by decide) (fun c_4 => ?_) (fun c_4 => ?_)
    · rw [if_pos c_4] at h
      refine lv_iconst (v := (-1)) hx hb d_Fo_leastThickness_96 (by decide) ?_
      cases h
    · rw [if_neg c_4] at h
      refine lv_aload_n hx hb d_Fo_leastThickness_81 rfl (lv_at hl 0 rfl) ?_
      refine va_get (ci := 1) (v := .ref (xFo 2)) (C := R_Fo) (T := F_Fo) (N := 5) hx hb hts i_Fo hown hK hP 0 rfl rfl 1 (by decide) (hts _ m_85) (fun _ h9 => h9) rfl d_Fo_leastThickness_82 ?_
      refine lv_iload_n hx hb d_Fo_leastThickness_85 rfl (lv_at hl 1 rfl) ?_
      refine lv_bipush (v := 8) hx hb d_Fo_leastThickness_86 (by decide) ?_
      refine lv_imul hx hb d_Fo_leastThickness_88 ?_
      refine lv_iload hx hb d_Fo_leastThickness_89 (lv_at hl 5 rfl) ?_
      refine lv_iadd hx hb d_Fo_leastThickness_91 ?_
      obtain ⟨hi_5, h⟩ := gb_i h
      refine va_iald hx hb hK hP 2 0 rfl rfl (inb_in hi_5) d_Fo_leastThickness_92 ?_
      obtain ⟨x_6, ex_6, h⟩ := letb_i h
      refine lv_topn ex_6 ?_
      refine lv_goto (tgt := 97) hx hb d_Fo_leastThickness_93 (by decide) ?_
      cases h
  have K20 : ∀ (n : Nat) (v4_20 : Int32) (v5_20 : Int32) (v6_20 : Int32) (H : Heap) (locs : List Loc) (ls : Array Slot), va_P D vwCl (wFo xFo cI cZ gFo) H → va_D A (wFo xFo cI cZ gFo) → va_S A s.heap H locs → lv_has ls 9 [(0, .ref (xFo 0)), (1, .int p1), (2, .int p2), (3, .int p3), (4, .int v4_20), (5, .int v5_20), (6, .int v6_20)] → it3 (f_Fo_leastThickness_L20 gFo p1 p2 p3) n v4_20 v5_20 v6_20 = some (.inr E) → W p l e rm_Fo_leastThickness_t s m args below meth c H locs 0 0 Q (F0 m 20 ls []) := by
    intro n
    induction n with
    | zero => intro v4_20 v5_20 v6_20 H locs ls hP hD hS hl h; exact (it3_0 h).elim
    | succ n ih =>
      intro v4_20 v5_20 v6_20 H locs ls hP hD hS hl h
      rw [it3_s, f_Fo_leastThickness_L20] at h
      generalize it3 (f_Fo_leastThickness_L20 gFo p1 p2 p3) n = kc_20 at h ih
      refine lv_iload hx hb d_Fo_leastThickness_20 (lv_at hl 5 rfl) ?_
      refine lv_iload hx hb d_Fo_leastThickness_22 (lv_at hl 6 rfl) ?_
      refine lv_icmp_ge (tgt := 74) hx hb d_Fo_leastThickness_24 (by decide) (fun c_7 => ?_) (fun c_7 => ?_)
      · rw [if_pos c_7] at h
        exact K74 v4_20 v5_20 v6_20 H locs ls hP hD hS (lv_sub hl [0, 1, 2, 3, 4, 5, 6] rfl) h
      · rw [if_neg c_7] at h
        refine lv_iload hx hb d_Fo_leastThickness_27 (lv_at hl 5 rfl) ?_
        refine lv_iload hx hb d_Fo_leastThickness_29 (lv_at hl 6 rfl) ?_
        refine lv_iadd hx hb d_Fo_leastThickness_31 ?_
        refine lv_iconst (v := 2) hx hb d_Fo_leastThickness_32 (by decide) ?_
        refine lv_idiv hx hb d_Fo_leastThickness_33 (by decide) ?_
        obtain ⟨x_8, ex_8, h⟩ := letb_i h
        refine lv_topn ex_8 ?_
        refine lv_istore (lv' := [(7, .int x_8), (0, .ref (xFo 0)), (1, .int p1), (2, .int p2), (3, .int p3), (4, .int v4_20), (5, .int v5_20), (6, .int v6_20)]) hx hb d_Fo_leastThickness_34 hl (by decide) rfl (fun ls hl => ?_)
        refine lv_aload_n hx hb d_Fo_leastThickness_36 rfl (lv_at hl 1 rfl) ?_
        refine lv_iload_n hx hb d_Fo_leastThickness_37 rfl (lv_at hl 2 rfl) ?_
        refine lv_iload hx hb d_Fo_leastThickness_38 (lv_at hl 0 rfl) ?_
        refine lv_iload_n hx hb d_Fo_leastThickness_40 rfl (lv_at hl 3 rfl) ?_
        obtain ⟨r_9, hc_10, h⟩ | ⟨E9, hc_10, h⟩ := xc1_i h
        rotate_left
        · cases h
          rw [hQ]
          exact x_out C0 hAe hno hlk hP hD hS [0, 1, 2, 3, 4, 5] rfl rfl rfl (rV (As := [.int p1, .int x_8, .int p2]) (rest := []) C0 hP hD hS hl.1 [0, 1, 2, 3, 4, 5] (c_Fo_valueAt_t l hltr D cI cZ cJ xFo H.size gFo p1 x_8 p2 E hc_10) k_Fo_valueAt m_421 rfl rfl rfl rfl ⟨by decide, by decide⟩ ⟨rfl, rfl⟩ rfl (Nat.le_of_ble_eq_true rfl) d_Fo_leastThickness_41 ⟨by decide, by decide⟩) ⟨rfl, rfl⟩
        refine cVi (ws' := (wFo xFo cI cZ gFo)) (As := [.int p1, .int x_8, .int p2]) (rest := []) C0 hP hD hS hl.1 [0, 1, 2, 3, 4, 5] (c_Fo_valueAt_r l D cI cZ cJ xFo H.size gFo p1 x_8 p2 r_9 hc_10) k_Fo_valueAt m_421 rfl rfl rfl rfl rfl (rp_same rfl) ⟨by decide, by decide⟩ ⟨rfl, rfl⟩ rfl (Nat.le_of_ble_eq_true rfl) d_Fo_leastThickness_41 ⟨Nat.zero_le _, Nat.zero_le _⟩ (fun H locs hP hD hS => ?_)
        refine lv_istore (lv' := [(8, .int r_9), (7, .int x_8), (0, .ref (xFo 0)), (1, .int p1), (2, .int p2), (3, .int p3), (4, .int v4_20), (5, .int v5_20), (6, .int v6_20)]) hx hb d_Fo_leastThickness_44 hl (by decide) rfl (fun ls hl => ?_)
        refine lv_iload hx hb d_Fo_leastThickness_46 (lv_at hl 0 rfl) ?_
        refine lv_iconst (v := (-1)) hx hb d_Fo_leastThickness_48 (by decide) ?_
        have K71 : ∀ (v4_71 : Int32) (v5_71 : Int32) (v6_71 : Int32) (v7_71 : Int32) (v8_71 : Int32) (H : Heap) (locs : List Loc) (ls : Array Slot), va_P D vwCl (wFo xFo cI cZ gFo) H → va_D A (wFo xFo cI cZ gFo) → va_S A s.heap H locs → lv_has ls 9 [(0, .ref (xFo 0)), (1, .int p1), (2, .int p2), (3, .int p3), (4, .int v4_71), (5, .int v5_71), (6, .int v6_71), (7, .int v7_71), (8, .int v8_71)] → f_Fo_leastThickness_J71 kc_20 v4_71 v5_71 v6_71 v7_71 v8_71 = some (.inr E) → W p l e rm_Fo_leastThickness_t s m args below meth c H locs 0 0 Q (F0 m 71 ls []) := by
          intro v4_71 v5_71 v6_71 v7_71 v8_71 H locs ls hP hD hS hl h
          unfold f_Fo_leastThickness_J71 at h
          refine lv_goto (tgt := 20) hx hb d_Fo_leastThickness_71 (by decide) ?_
          exact ih v4_71 v5_71 v6_71 H locs ls hP hD hS (lv_sub hl [0, 1, 2, 3, 4, 5, 6] rfl) h
        have K65 : ∀ (v4_65 : Int32) (v5_65 : Int32) (v6_65 : Int32) (v7_65 : Int32) (v8_65 : Int32) (H : Heap) (locs : List Loc) (ls : Array Slot), va_P D vwCl (wFo xFo cI cZ gFo) H → va_D A (wFo xFo cI cZ gFo) → va_S A s.heap H locs → lv_has ls 9 [(0, .ref (xFo 0)), (1, .int p1), (2, .int p2), (3, .int p3), (4, .int v4_65), (5, .int v5_65), (6, .int v6_65), (7, .int v7_65), (8, .int v8_65)] → f_Fo_leastThickness_J65 kc_20 v4_65 v5_65 v6_65 v7_65 v8_65 = some (.inr E) → W p l e rm_Fo_leastThickness_t s m args below meth c H locs 0 0 Q (F0 m 65 ls []) := by
          intro v4_65 v5_65 v6_65 v7_65 v8_65 H locs ls hP hD hS hl h
          unfold f_Fo_leastThickness_J65 at h
          refine lv_iload hx hb d_Fo_leastThickness_65 (lv_at hl 7 rfl) ?_
          refine lv_iconst (v := 1) hx hb d_Fo_leastThickness_67 (by decide) ?_
          refine lv_iadd hx hb d_Fo_leastThickness_68 ?_
          obtain ⟨x_11, ex_11, h⟩ := letb_i h
          refine lv_topn ex_11 ?_
          refine lv_istore (lv' := [(5, .int x_11), (0, .ref (xFo 0)), (1, .int p1), (2, .int p2), (3, .int p3), (4, .int v4_65), (6, .int v6_65), (7, .int v7_65), (8, .int v8_65)]) hx hb d_Fo_leastThickness_69 hl (by decide) rfl (fun ls hl => ?_)
          exact K71 v4_65 x_11 v6_65 v7_65 v8_65 H locs ls hP hD hS (lv_sub hl [1, 2, 3, 4, 5, 0, 6, 7, 8] rfl) h
        refine lv_icmp_eq (tgt := 65) hx hb d_Fo_leastThickness_49 (by decide) (fun c_12 => ?_) (fun c_12 => ?_)
        · rw [if_pos c_12] at h
          exact K65 v4_20 v5_20 v6_20 x_8 r_9 H locs ls hP hD hS (lv_sub hl [2, 3, 4, 5, 6, 7, 8, 1, 0] rfl) h
        · rw [if_neg c_12] at h
          refine lv_iload hx hb d_Fo_leastThickness_52 (lv_at hl 0 rfl) ?_
          refine lv_iload_n hx hb d_Fo_leastThickness_54 rfl (lv_at hl 5 rfl) ?_
          refine lv_icmp_gt (tgt := 65) hx hb d_Fo_leastThickness_55 (by decide) (fun c_13 => ?_) (fun c_13 => ?_)
          · rw [if_pos c_13] at h
            exact K65 v4_20 v5_20 v6_20 x_8 r_9 H locs ls hP hD hS (lv_sub hl [2, 3, 4, 5, 6, 7, 8, 1, 0] rfl) h
          · rw [if_neg c_13] at h
            refine lv_iload hx hb d_Fo_leastThickness_58 (lv_at hl 1 rfl) ?_
            refine lv_istore (lv' := [(6, .int x_8), (8, .int r_9), (7, .int x_8), (0, .ref (xFo 0)), (1, .int p1), (2, .int p2), (3, .int p3), (4, .int v4_20), (5, .int v5_20)]) hx hb d_Fo_leastThickness_60 hl (by decide) rfl (fun ls hl => ?_)
            refine lv_goto (tgt := 71) hx hb d_Fo_leastThickness_62 (by decide) ?_
            exact K71 v4_20 v5_20 x_8 x_8 r_9 H locs ls hP hD hS (lv_sub hl [3, 4, 5, 6, 7, 8, 0, 2, 1] rfl) h
  exact K20 FU x_3 0 x_3 H locs ls hP hD hS (lv_sub hl [3, 4, 5, 6, 2, 1, 0] rfl) h
