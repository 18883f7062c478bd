abbrev rm_Sh_allow_r : Room := { frames := 1, cells := 0, slots := 0, locals := 22 }
set_option maxRecDepth 100000 in
set_option maxHeartbeats 4000000 in
theorem c_Sh_allow_r (l : Launch) (D : va_G) (cI cZ cJ : ClassId) (xSh : Nat → Nat) (sz : Nat) (gSh : St) (p1 : Int32) (p2 : Int32) (gSh1 : St) (h : f_Sh_allow gSh p1 p2 = some (.inl gSh1)) : MV l y_Sh_allow b_Sh_allow 3 (Option.none : Option Jvm.ClassFile.FieldType) rm_Sh_allow_r D (TYS cI cZ cJ) [.ref (xSh 0), .int p1, .int p2] (wSh xSh cI cZ gSh) sz (wSh xSh cI cZ gSh1) := by
  refine mv_start (own := R_Sh) (by decide +kernel) rfl (Nat.le_of_ble_eq_true rfl) (fun p e s m args below meth c A ls C0 hr hlk hP hD hS hl => ?_)
  obtain ⟨Q, hQ⟩ : ∃ Q, Q = QV below D (TYS cI cZ cJ) A (wSh xSh cI cZ gSh1) args s := ⟨_, rfl⟩
  rw [← hQ]
  obtain ⟨hx, hb, -, hown, hts, hK, hE, -⟩ := id C0
  have hl : lv_has ls 3 [(0, .ref (xSh 0)), (1, .int p1), (2, .int p2)] := hl
  obtain ⟨H, hH⟩ : ∃ H, H = s.heap := ⟨_, rfl⟩
  have hP : va_P D vwCl (wSh xSh cI cZ gSh) H := by rw [hH]; exact hP
  have hS : va_S A s.heap H [] := by rw [hH]; exact hS
  rw [show W p l e rm_Sh_allow_r s m args below meth c s.heap = W p l e rm_Sh_allow_r s m args below meth c H by rw [hH]]
  generalize ([] : List Loc) = locs at hS ⊢
  unfold f_Sh_allow at h
  refine lv_iload_n hx hb d_Sh_allow_0 rfl (lv_at hl 1 rfl) ?_
  refine lv_iconst (v := 1) hx hb d_Sh_allow_1 (by decide) ?_
  refine lv_sipush (v := 10000) hx hb d_Sh_allow_2 (by decide) ?_
  obtain ⟨hc_1, h⟩ | ⟨E9, hc_1, h⟩ := xc0_i h
  rotate_left
  · cases h
  refine cNv (ws' := (wSh xSh cI cZ gSh)) (As := [.int p1, .int 1, .int 10000]) (rest := []) C0 hP hD hS hl.1 [] (c_Cc_requireRange_r l D cI cZ cJ  H.size p1 1 10000 hc_1) k_Cc_requireRange (List.mem_of_getElem? (i := 14) rfl) rfl rfl rfl (rp_same rfl) ⟨by decide, by decide⟩ ⟨rfl, rfl⟩ rfl (Nat.le_of_ble_eq_true rfl) d_Sh_allow_5 ⟨Nat.zero_le _, Nat.zero_le _⟩ (fun H locs hP hD hS => ?_)
  refine lv_iload_n hx hb d_Sh_allow_8 rfl (lv_at hl 2 rfl) ?_
  refine lv_iconst (v := 1) hx hb d_Sh_allow_9 (by decide) ?_
  refine lv_sipush (v := 10000) hx hb d_Sh_allow_10 (by decide) ?_
  obtain ⟨hc_2, h⟩ | ⟨E9, hc_2, h⟩ := xc0_i h
  rotate_left
  · cases h
  refine cNv (ws' := (wSh xSh cI cZ gSh)) (As := [.int p2, .int 1, .int 10000]) (rest := []) C0 hP hD hS hl.1 [] (c_Cc_requireRange_r l D cI cZ cJ  H.size p2 1 10000 hc_2) k_Cc_requireRange (List.mem_of_getElem? (i := 14) rfl) rfl rfl rfl (rp_same rfl) ⟨by decide, by decide⟩ ⟨rfl, rfl⟩ rfl (Nat.le_of_ble_eq_true rfl) d_Sh_allow_13 ⟨Nat.zero_le _, Nat.zero_le _⟩ (fun H locs hP hD hS => ?_)
  refine lv_aload_n hx hb d_Sh_allow_16 rfl (lv_at hl 0 rfl) ?_
  refine lv_iload_n hx hb d_Sh_allow_17 rfl (lv_at hl 1 rfl) ?_
  refine va_put (ci := 5) (v := .int p1) (ty := .int) (C := R_Sh) (T := F_Sh) (N := 4) hx hb hts i_Sh t_Sh o_Sh n_Sh hown hK hP hD hS 0 rfl rfl 0 (by decide) (hts _ m_178) (fun _ h9 => h9) rfl (by decide +kernel) rfl rfl (Nat.le_of_ble_eq_true rfl) d_Sh_allow_18 (fun H locs hP hD hS => ?_)
  obtain ⟨gSh_3, egSh_3, h⟩ := letb_i h
  have hP : va_P D vwCl (wSh xSh cI cZ gSh_3) H := by rw [egSh_3, u_Sh_0_0]; exact hP
  have hD : va_D A (wSh xSh cI cZ gSh_3) := by rw [egSh_3, u_Sh_0_0]; exact hD
  refine lv_aload_n hx hb d_Sh_allow_21 rfl (lv_at hl 0 rfl) ?_
  refine lv_iload_n hx hb d_Sh_allow_22 rfl (lv_at hl 2 rfl) ?_
  refine va_put (ci := 5) (v := .int p2) (ty := .int) (C := R_Sh) (T := F_Sh) (N := 4) hx hb hts i_Sh t_Sh o_Sh n_Sh hown hK hP hD hS 0 rfl rfl 1 (by decide) (hts _ m_179) (fun _ h9 => h9) rfl (by decide +kernel) rfl rfl (Nat.le_of_ble_eq_true rfl) d_Sh_allow_23 (fun H locs hP hD hS => ?_)
  obtain ⟨gSh_4, egSh_4, h⟩ := letb_i h
  have hP : va_P D vwCl (wSh xSh cI cZ gSh_4) H := by rw [egSh_4, u_Sh_0_1]; exact hP
  have hD : va_D A (wSh xSh cI cZ gSh_4) := by rw [egSh_4, u_Sh_0_1]; exact hD
  cases h
  rw [hQ]
  exact mv_ret C0 hr hlk hP hD hS d_Sh_allow_26
abbrev rm_Sh_allow_t : Room := { frames := 7, cells := 1, slots := 6, locals := 104 }
set_option maxRecDepth 100000 in
set_option maxHeartbeats 4000000 in
theorem c_Sh_allow_t (l : Launch) (hltr : l.stackTraces = false) (D : va_G) (cI cZ cJ : ClassId) (xSh : Nat → Nat) (sz : Nat) (gSh : St) (p1 : Int32) (p2 : Int32) (E : String) (h : f_Sh_allow gSh p1 p2 = some (.inr E)) : MT l y_Sh_allow b_Sh_allow 3 (Option.none : Option Jvm.ClassFile.FieldType) rm_Sh_allow_t D (TYS cI cZ cJ) [.ref (xSh 0), .int p1, .int p2] (wSh xSh cI cZ gSh) sz E := by
  refine mt_start (own := R_Sh) (by decide +kernel) rfl (Nat.le_of_ble_eq_true rfl) (fun p e s m args below meth c A ls C0 hAe hno hlk hP hD hS hl => ?_)
  obtain ⟨Q, hQ⟩ : ∃ Q, Q = QT below D (TYS cI cZ cJ) (wSh xSh cI cZ gSh) E args s := ⟨_, rfl⟩
  rw [← hQ]
  obtain ⟨hx, hb, -, hown, hts, hK, hE, -⟩ := id C0
  have hl : lv_has ls 3 [(0, .ref (xSh 0)), (1, .int p1), (2, .int p2)] := hl
  obtain ⟨H, hH⟩ : ∃ H, H = s.heap := ⟨_, rfl⟩
  have hP : va_P D vwCl (wSh xSh cI cZ gSh) H := by rw [hH]; exact hP
  have hS : va_S A s.heap H [] := by rw [hH]; exact hS
  rw [show W p l e rm_Sh_allow_t s m args below meth c s.heap = W p l e rm_Sh_allow_t s m args below meth c H by rw [hH]]
  generalize ([] : List Loc) = locs at hS ⊢
  unfold f_Sh_allow at h
  refine lv_iload_n hx hb d_Sh_allow_0 rfl (lv_at hl 1 rfl) ?_
  refine lv_iconst (v := 1) hx hb d_Sh_allow_1 (by decide) ?_
  refine lv_sipush (v := 10000) hx hb d_Sh_allow_2 (by decide) ?_
  obtain ⟨hc_1, h⟩ | ⟨E9, hc_1, h⟩ := xc0_i h
  rotate_left
  · cases h
    rw [hQ]
    exact x_out C0 hAe hno hlk hP hD hS [] rfl rfl rfl (rN (As := [.int p1, .int 1, .int 10000]) (rest := []) C0 hP hD hS hl.1 [] (c_Cc_requireRange_t l hltr D cI cZ cJ  H.size p1 1 10000 E hc_1) k_Cc_requireRange (List.mem_of_getElem? (i := 14) rfl) rfl rfl ⟨by decide, by decide⟩ ⟨rfl, rfl⟩ rfl (Nat.le_of_ble_eq_true rfl) d_Sh_allow_5 ⟨by decide, by decide⟩) ⟨rfl, rfl⟩
  refine cNv (ws' := (wSh xSh cI cZ gSh)) (As := [.int p1, .int 1, .int 10000]) (rest := []) C0 hP hD hS hl.1 [] (c_Cc_requireRange_r l D cI cZ cJ  H.size p1 1 10000 hc_1) k_Cc_requireRange (List.mem_of_getElem? (i := 14) rfl) rfl rfl rfl (rp_same rfl) ⟨by decide, by decide⟩ ⟨rfl, rfl⟩ rfl (Nat.le_of_ble_eq_true rfl) d_Sh_allow_5 ⟨Nat.zero_le _, Nat.zero_le _⟩ (fun H locs hP hD hS => ?_)
  refine lv_iload_n hx hb d_Sh_allow_8 rfl (lv_at hl 2 rfl) ?_
  refine lv_iconst (v := 1) hx hb d_Sh_allow_9 (by decide) ?_
  refine lv_sipush (v := 10000) hx hb d_Sh_allow_10 (by decide) ?_
  obtain ⟨hc_2, h⟩ | ⟨E9, hc_2, h⟩ := xc0_i h
  rotate_left
  · cases h
    rw [hQ]
    exact x_out C0 hAe hno hlk hP hD hS [] rfl rfl rfl (rN (As := [.int p2, .int 1, .int 10000]) (rest := []) C0 hP hD hS hl.1 [] (c_Cc_requireRange_t l hltr D cI cZ cJ  H.size p2 1 10000 E hc_2) k_Cc_requireRange (List.mem_of_getElem? (i := 14) rfl) rfl rfl ⟨by decide, by decide⟩ ⟨rfl, rfl⟩ rfl (Nat.le_of_ble_eq_true rfl) d_Sh_allow_13 ⟨by decide, by decide⟩) ⟨rfl, rfl⟩
  refine cNv (ws' := (wSh xSh cI cZ gSh)) (As := [.int p2, .int 1, .int 10000]) (rest := []) C0 hP hD hS hl.1 [] (c_Cc_requireRange_r l D cI cZ cJ  H.size p2 1 10000 hc_2) k_Cc_requireRange (List.mem_of_getElem? (i := 14) rfl) rfl rfl rfl (rp_same rfl) ⟨by decide, by decide⟩ ⟨rfl, rfl⟩ rfl (Nat.le_of_ble_eq_true rfl) d_Sh_allow_13 ⟨Nat.zero_le _, Nat.zero_le _⟩ (fun H locs hP hD hS => ?_)
  refine lv_aload_n hx hb d_Sh_allow_16 rfl (lv_at hl 0 rfl) ?_
  refine lv_iload_n hx hb d_Sh_allow_17 rfl (lv_at hl 1 rfl) ?_
  refine va_put (ci := 5) (v := .int p1) (ty := .int) (C := R_Sh) (T := F_Sh) (N := 4) hx hb hts i_Sh t_Sh o_Sh n_Sh hown hK hP hD hS 0 rfl rfl 0 (by decide) (hts _ m_178) (fun _ h9 => h9) rfl (by decide +kernel) rfl rfl (Nat.le_of_ble_eq_true rfl) d_Sh_allow_18 (fun H locs hP hD hS => ?_)
  obtain ⟨gSh_3, egSh_3, h⟩ := letb_i h
  have hP : va_P D vwCl (wSh xSh cI cZ gSh_3) H := by rw [egSh_3, u_Sh_0_0]; exact hP
  have hD : va_D A (wSh xSh cI cZ gSh_3) := by rw [egSh_3, u_Sh_0_0]; exact hD
  refine lv_aload_n hx hb d_Sh_allow_21 rfl (lv_at hl 0 rfl) ?_
  refine lv_iload_n hx hb d_Sh_allow_22 rfl (lv_at hl 2 rfl) ?_
  refine va_put (ci := 5) (v := .int p2) (ty := .int) (C := R_Sh) (T := F_Sh) (N := 4) hx hb hts i_Sh t_Sh o_Sh n_Sh hown hK hP hD hS 0 rfl rfl 1 (by decide) (hts _ m_179) (fun _ h9 => h9) rfl (by decide +kernel) rfl rfl (Nat.le_of_ble_eq_true rfl) d_Sh_allow_23 (fun H locs hP hD hS => ?_)
  obtain ⟨gSh_4, egSh_4, h⟩ := letb_i h
  have hP : va_P D vwCl (wSh xSh cI cZ gSh_4) H := by rw [egSh_4, u_Sh_0_1]; exact hP
  have hD : va_D A (wSh xSh cI cZ gSh_4) := by rw [egSh_4, u_Sh_0_1]; exact hD
  cases h
abbrev rm_Sh_add_r : Room := { frames := 1, cells := 0, slots := 0, locals := 22 }
set_option maxRecDepth 100000 in
set_option maxHeartbeats 4000000 in
theorem c_Sh_add_r (l : Launch) (D : va_G) (cI cZ cJ : ClassId) (xSh : Nat → Nat) (sz : Nat) (gSh : St) (p1 : Int32) (p2 : Int32) (r : Int32) (gSh1 : St) (h : f_Sh_add gSh p1 p2 = some (.inl (r, gSh1))) : MI l y_Sh_add b_Sh_add 4 (some .boolean) rm_Sh_add_r D (TYS cI cZ cJ) [.ref (xSh 0), .int p1, .int p2] (wSh xSh cI cZ gSh) sz r (wSh xSh cI cZ gSh1) := by
  refine mi_start (own := R_Sh) (by decide +kernel) rfl (Nat.le_of_ble_eq_true rfl) (fun p e s m args below meth c A ls C0 hr hlk hP hD hS hl => ?_)
  obtain ⟨Q, hQ⟩ : ∃ Q, Q = QI below D (TYS cI cZ cJ) A (wSh xSh cI cZ gSh1) r args s := ⟨_, rfl⟩
  rw [← hQ]
  obtain ⟨hx, hb, -, hown, hts, hK, hE, -⟩ := id C0
  have hl : lv_has ls 4 [(0, .ref (xSh 0)), (1, .int p1), (2, .int p2)] := hl
  obtain ⟨H, hH⟩ : ∃ H, H = s.heap := ⟨_, rfl⟩
  have hP : va_P D vwCl (wSh xSh cI cZ gSh) H := by rw [hH]; exact hP
  have hS : va_S A s.heap H [] := by rw [hH]; exact hS
  rw [show W p l e rm_Sh_add_r s m args below meth c s.heap = W p l e rm_Sh_add_r s m args below meth c H by rw [hH]]
  generalize ([] : List Loc) = locs at hS ⊢
  unfold f_Sh_add at h
  refine lv_iload_n hx hb d_Sh_add_0 rfl (lv_at hl 1 rfl) ?_
  refine lv_iconst (v := 0) hx hb d_Sh_add_1 (by decide) ?_
  refine lv_sipush (v := 10000) hx hb d_Sh_add_2 (by decide) ?_
  obtain ⟨hc_1, h⟩ | ⟨E9, hc_1, h⟩ := xc0_i h
  rotate_left
  · cases h
  refine cNv (ws' := (wSh xSh cI cZ gSh)) (As := [.int p1, .int 0, .int 10000]) (rest := []) C0 hP hD hS hl.1 [] (c_Cc_requireRange_r l D cI cZ cJ  H.size p1 0 10000 hc_1) k_Cc_requireRange (List.mem_of_getElem? (i := 14) rfl) rfl rfl rfl (rp_same rfl) ⟨by decide, by decide⟩ ⟨rfl, rfl⟩ rfl (Nat.le_of_ble_eq_true rfl) d_Sh_add_5 ⟨Nat.zero_le _, Nat.zero_le _⟩ (fun H locs hP hD hS => ?_)
  refine lv_iload_n hx hb d_Sh_add_8 rfl (lv_at hl 2 rfl) ?_
  refine lv_iconst (v := 0) hx hb d_Sh_add_9 (by decide) ?_
  refine lv_sipush (v := 10000) hx hb d_Sh_add_10 (by decide) ?_
  obtain ⟨hc_2, h⟩ | ⟨E9, hc_2, h⟩ := xc0_i h
  rotate_left
  · cases h
  refine cNv (ws' := (wSh xSh cI cZ gSh)) (As := [.int p2, .int 0, .int 10000]) (rest := []) C0 hP hD hS hl.1 [] (c_Cc_requireRange_r l D cI cZ cJ  H.size p2 0 10000 hc_2) k_Cc_requireRange (List.mem_of_getElem? (i := 14) rfl) rfl rfl rfl (rp_same rfl) ⟨by decide, by decide⟩ ⟨rfl, rfl⟩ rfl (Nat.le_of_ble_eq_true rfl) d_Sh_add_13 ⟨Nat.zero_le _, Nat.zero_le _⟩ (fun H locs hP hD hS => ?_)
  refine lv_iload_n hx hb d_Sh_add_16 rfl (lv_at hl 1 rfl) ?_
  refine lv_aload_n hx hb d_Sh_add_17 rfl (lv_at hl 0 rfl) ?_
  refine va_get (ci := 5) (v := .int (gSh 0 0)) (C := R_Sh) (T := F_Sh) (N := 4) hx hb hts i_Sh hown hK hP 0 rfl rfl 0 (by decide) (hts _ m_178) (fun _ h9 => h9) rfl d_Sh_add_18 ?_
  have K47 : ∀ (s0_47 : Int32) (H : Heap) (locs : List Loc) (ls : Array Slot), va_P D vwCl (wSh xSh cI cZ gSh) H → va_D A (wSh xSh cI cZ gSh) → va_S A s.heap H locs → lv_has ls 4 [(0, .ref (xSh 0)), (1, .int p1), (2, .int p2)] → f_Sh_add_J47 gSh s0_47 = some (.inl (r, gSh1)) → W p l e rm_Sh_add_r s m args below meth c H locs 0 0 Q (F0 m 47 ls [.int s0_47]) := by
    intro s0_47 H locs ls hP hD hS hl h
    unfold f_Sh_add_J47 at h
    refine lv_istore_n (lv' := [(3, .int s0_47), (0, .ref (xSh 0)), (1, .int p1), (2, .int p2)]) hx hb d_Sh_add_47 rfl hl (by decide) rfl (fun ls hl => ?_)
    refine lv_aload_n hx hb d_Sh_add_48 rfl (lv_at hl 1 rfl) ?_
    refine lv_dup hx hb d_Sh_add_49 rfl ?_
    refine va_get (ci := 5) (v := .int (gSh 0 2)) (C := R_Sh) (T := F_Sh) (N := 4) hx hb hts i_Sh hown hK hP 0 rfl rfl 2 (by decide) (hts _ m_180) (fun _ h9 => h9) rfl d_Sh_add_50 ?_
    refine lv_iconst (v := 1) hx hb d_Sh_add_53 (by decide) ?_
    refine lv_iadd hx hb d_Sh_add_54 ?_
    refine va_put (ci := 5) (v := .int ((gSh 0 2) + 1)) (ty := .int) (C := R_Sh) (T := F_Sh) (N := 4) hx hb hts i_Sh t_Sh o_Sh n_Sh hown hK hP hD hS 0 rfl rfl 2 (by decide) (hts _ m_180) (fun _ h9 => h9) rfl (by decide +kernel) rfl rfl (Nat.le_of_ble_eq_true rfl) d_Sh_add_55 (fun H locs hP hD hS => ?_)
    obtain ⟨gSh_3, egSh_3, h⟩ := letb_i h
    have hP : va_P D vwCl (wSh xSh cI cZ gSh_3) H := by rw [egSh_3, u_Sh_0_2]; exact hP
    have hD : va_D A (wSh xSh cI cZ gSh_3) := by rw [egSh_3, u_Sh_0_2]; exact hD
    refine lv_iload_n hx hb d_Sh_add_58 rfl (lv_at hl 0 rfl) ?_
    refine lv_if_eq (tgt := 72) hx hb d_Sh_add_59 (by decide) (fun c_4 => ?_) (fun c_4 => ?_)
    · rw [if_pos c_4] at h
      refine lv_iload_n hx hb d_Sh_add_72 rfl (lv_at hl 0 rfl) ?_
      obtain ⟨hz_5, h⟩ := gb_i h
      cases h
      rw [hQ]
      exact mi_ret C0 hr (isb_n hz_5) hlk hP hD hS d_Sh_add_73
    · rw [if_neg c_4] at h
      refine lv_aload_n hx hb d_Sh_add_62 rfl (lv_at hl 1 rfl) ?_
      refine lv_dup hx hb d_Sh_add_63 rfl ?_
      refine va_get (ci := 5) (v := .int (gSh_3 0 3)) (C := R_Sh) (T := F_Sh) (N := 4) hx hb hts i_Sh hown hK hP 0 rfl rfl 3 (by decide) (hts _ m_182) (fun _ h9 => h9) rfl d_Sh_add_64 ?_
      refine lv_iconst (v := 1) hx hb d_Sh_add_67 (by decide) ?_
      refine lv_iadd hx hb d_Sh_add_68 ?_
      refine va_put (ci := 5) (v := .int ((gSh_3 0 3) + 1)) (ty := .int) (C := R_Sh) (T := F_Sh) (N := 4) hx hb hts i_Sh t_Sh o_Sh n_Sh hown hK hP hD hS 0 rfl rfl 3 (by decide) (hts _ m_182) (fun _ h9 => h9) rfl (by decide +kernel) rfl rfl (Nat.le_of_ble_eq_true rfl) d_Sh_add_69 (fun H locs hP hD hS => ?_)
      obtain ⟨gSh_6, egSh_6, h⟩ := letb_i h
      have hP : va_P D vwCl (wSh xSh cI cZ gSh_6) H := by rw [egSh_6, u_Sh_0_3]; exact hP
      have hD : va_D A (wSh xSh cI cZ gSh_6) := by rw [egSh_6, u_Sh_0_3]; exact hD
      refine lv_iload_n hx hb d_Sh_add_72 rfl (lv_at hl 0 rfl) ?_
      obtain ⟨hz_7, h⟩ := gb_i h
      cases h
      rw [hQ]
      exact mi_ret C0 hr (isb_n hz_7) hlk hP hD hS d_Sh_add_73
  have K42 : ∀ (H : Heap) (locs : List Loc) (ls : Array Slot), va_P D vwCl (wSh xSh cI cZ gSh) H → va_D A (wSh xSh cI cZ gSh) → va_S A s.heap H locs → lv_has ls 4 [(0, .ref (xSh 0)), (1, .int p1), (2, .int p2)] → f_Sh_add_J42 gSh = some (.inl (r, gSh1)) → W p l e rm_Sh_add_r s m args below meth c H locs 0 0 Q (F0 m 42 ls []) := by
    intro  H locs ls hP hD hS hl h
    unfold f_Sh_add_J42 at h
    refine lv_iconst (v := 1) hx hb d_Sh_add_42 (by decide) ?_
    refine lv_goto (tgt := 47) hx hb d_Sh_add_43 (by decide) ?_
    exact K47 1 H locs ls hP hD hS (lv_sub hl [0, 1, 2] rfl) h
  refine lv_icmp_gt (tgt := 42) hx hb d_Sh_add_21 (by decide) (fun c_8 => ?_) (fun c_8 => ?_)
  · rw [if_pos c_8] at h
    exact K42  H locs ls hP hD hS (lv_sub hl [0, 1, 2] rfl) h
  · rw [if_neg c_8] at h
    refine lv_iload_n hx hb d_Sh_add_24 rfl (lv_at hl 1 rfl) ?_
    refine lv_aload_n hx hb d_Sh_add_25 rfl (lv_at hl 0 rfl) ?_
    refine va_get (ci := 5) (v := .int (gSh 0 0)) (C := R_Sh) (T := F_Sh) (N := 4) hx hb hts i_Sh hown hK hP 0 rfl rfl 0 (by decide) (hts _ m_178) (fun _ h9 => h9) rfl d_Sh_add_26 ?_
    refine lv_iconst (v := 2) hx hb d_Sh_add_29 (by decide) ?_
    refine lv_idiv hx hb d_Sh_add_30 (by decide) ?_
    have K46 : ∀ (H : Heap) (locs : List Loc) (ls : Array Slot), va_P D vwCl (wSh xSh cI cZ gSh) H → va_D A (wSh xSh cI cZ gSh) → va_S A s.heap H locs → lv_has ls 4 [(0, .ref (xSh 0)), (1, .int p1), (2, .int p2)] → f_Sh_add_J46 gSh = some (.inl (r, gSh1)) → W p l e rm_Sh_add_r s m args below meth c H locs 0 0 Q (F0 m 46 ls []) := by
      intro  H locs ls hP hD hS hl h
      unfold f_Sh_add_J46 at h
      refine lv_iconst (v := 0) hx hb d_Sh_add_46 (by decide) ?_
      exact K47 0 H locs ls hP hD hS (lv_sub hl [0, 1, 2] rfl) h
    refine lv_icmp_le (tgt := 46) hx hb d_Sh_add_31 (by decide) (fun c_9 => ?_) (fun c_9 => ?_)
    · rw [if_pos c_9] at h
      exact K46  H locs ls hP hD hS (lv_sub hl [0, 1, 2] rfl) h
    · rw [if_neg c_9] at h
      refine lv_iload_n hx hb d_Sh_add_34 rfl (lv_at hl 2 rfl) ?_
      refine lv_aload_n hx hb d_Sh_add_35 rfl (lv_at hl 0 rfl) ?_
      refine va_get (ci := 5) (v := .int (gSh 0 1)) (C := R_Sh) (T := F_Sh) (N := 4) hx hb hts i_Sh hown hK hP 0 rfl rfl 1 (by decide) (hts _ m_179) (fun _ h9 => h9) rfl d_Sh_add_36 ?_
      refine lv_icmp_le (tgt := 46) hx hb d_Sh_add_39 (by decide) (fun c_10 => ?_) (fun c_10 => ?_)
      · rw [if_pos c_10] at h
        exact K46  H locs ls hP hD hS (lv_sub hl [0, 1, 2] rfl) h
      · rw [if_neg c_10] at h
        exact K42  H locs ls hP hD hS (lv_sub hl [0, 1, 2] rfl) h
abbrev rm_Sh_add_t : Room := { frames := 7, cells := 1, slots := 6, locals := 104 }
set_option maxRecDepth 100000 in
set_option maxHeartbeats 4000000 in
theorem c_Sh_add_t (l : Launch) (hltr : l.stackTraces = false) (D : va_G) (cI cZ cJ : ClassId) (xSh : Nat → Nat) (sz : Nat) (gSh : St) (p1 : Int32) (p2 : Int32) (E : String) (h : f_Sh_add gSh p1 p2 = some (.inr E)) : MT l y_Sh_add b_Sh_add 4 (some .boolean) rm_Sh_add_t D (TYS cI cZ cJ) [.ref (xSh 0), .int p1, .int p2] (wSh xSh cI cZ gSh) sz E := by
  refine mt_start (own := R_Sh) (by decide +kernel) rfl (Nat.le_of_ble_eq_true rfl) (fun p e s m args below meth c A ls C0 hAe hno hlk hP hD hS hl => ?_)
  obtain ⟨Q, hQ⟩ : ∃ Q, Q = QT below D (TYS cI cZ cJ) (wSh xSh cI cZ gSh) E args s := ⟨_, rfl⟩
  rw [← hQ]
  obtain ⟨hx, hb, -, hown, hts, hK, hE, -⟩ := id C0
  have hl : lv_has ls 4 [(0, .ref (xSh 0)), (1, .int p1), (2, .int p2)] := hl
  obtain ⟨H, hH⟩ : ∃ H, H = s.heap := ⟨_, rfl⟩
  have hP : va_P D vwCl (wSh xSh cI cZ gSh) H := by rw [hH]; exact hP
  have hS : va_S A s.heap H [] := by rw [hH]; exact hS
  rw [show W p l e rm_Sh_add_t s m args below meth c s.heap = W p l e rm_Sh_add_t s m args below meth c H by rw [hH]]
  generalize ([] : List Loc) = locs at hS ⊢
  unfold f_Sh_add at h
  refine lv_iload_n hx hb d_Sh_add_0 rfl (lv_at hl 1 rfl) ?_
  refine lv_iconst (v := 0) hx hb d_Sh_add_1 (by decide) ?_
  refine lv_sipush (v := 10000) hx hb d_Sh_add_2 (by decide) ?_
  obtain ⟨hc_1, h⟩ | ⟨E9, hc_1, h⟩ := xc0_i h
  rotate_left
  · cases h
    rw [hQ]
    exact x_out C0 hAe hno hlk hP hD hS [] rfl rfl rfl (rN (As := [.int p1, .int 0, .int 10000]) (rest := []) C0 hP hD hS hl.1 [] (c_Cc_requireRange_t l hltr D cI cZ cJ  H.size p1 0 10000 E hc_1) k_Cc_requireRange (List.mem_of_getElem? (i := 14) rfl) rfl rfl ⟨by decide, by decide⟩ ⟨rfl, rfl⟩ rfl (Nat.le_of_ble_eq_true rfl) d_Sh_add_5 ⟨by decide, by decide⟩) ⟨rfl, rfl⟩
  refine cNv (ws' := (wSh xSh cI cZ gSh)) (As := [.int p1, .int 0, .int 10000]) (rest := []) C0 hP hD hS hl.1 [] (c_Cc_requireRange_r l D cI cZ cJ  H.size p1 0 10000 hc_1) k_Cc_requireRange (List.mem_of_getElem? (i := 14) rfl) rfl rfl rfl (rp_same rfl) ⟨by decide, by decide⟩ ⟨rfl, rfl⟩ rfl (Nat.le_of_ble_eq_true rfl) d_Sh_add_5 ⟨Nat.zero_le _, Nat.zero_le _⟩ (fun H locs hP hD hS => ?_)
  refine lv_iload_n hx hb d_Sh_add_8 rfl (lv_at hl 2 rfl) ?_
  refine lv_iconst (v := 0) hx hb d_Sh_add_9 (by decide) ?_
  refine lv_sipush (v := 10000) hx hb d_Sh_add_10 (by decide) ?_
  obtain ⟨hc_2, h⟩ | ⟨E9, hc_2, h⟩ := xc0_i h
  rotate_left
  · cases h
    rw [hQ]
    exact x_out C0 hAe hno hlk hP hD hS [] rfl rfl rfl (rN (As := [.int p2, .int 0, .int 10000]) (rest := []) C0 hP hD hS hl.1 [] (c_Cc_requireRange_t l hltr D cI cZ cJ  H.size p2 0 10000 E hc_2) k_Cc_requireRange (List.mem_of_getElem? (i := 14) rfl) rfl rfl ⟨by decide, by decide⟩ ⟨rfl, rfl⟩ rfl (Nat.le_of_ble_eq_true rfl) d_Sh_add_13 ⟨by decide, by decide⟩) ⟨rfl, rfl⟩
  refine cNv (ws' := (wSh xSh cI cZ gSh)) (As := [.int p2, .int 0, .int 10000]) (rest := []) C0 hP hD hS hl.1 [] (c_Cc_requireRange_r l D cI cZ cJ  H.size p2 0 10000 hc_2) k_Cc_requireRange (List.mem_of_getElem? (i := 14) rfl) rfl rfl rfl (rp_same rfl) ⟨by decide, by decide⟩ ⟨rfl, rfl⟩ rfl (Nat.le_of_ble_eq_true rfl) d_Sh_add_13 ⟨Nat.zero_le _, Nat.zero_le _⟩ (fun H locs hP hD hS => ?_)
  refine lv_iload_n hx hb d_Sh_add_16 rfl (lv_at hl 1 rfl) ?_
  refine lv_aload_n hx hb d_Sh_add_17 rfl (lv_at hl 0 rfl) ?_
  refine va_get (ci := 5) (v := .int (gSh 0 0)) (C := R_Sh) (T := F_Sh) (N := 4) hx hb hts i_Sh hown hK hP 0 rfl rfl 0 (by decide) (hts _ m_178) (fun _ h9 => h9) rfl d_Sh_add_18 ?_
  have K47 : ∀ (s0_47 : Int32) (H : Heap) (locs : List Loc) (ls : Array Slot), va_P D vwCl (wSh xSh cI cZ gSh) H → va_D A (wSh xSh cI cZ gSh) → va_S A s.heap H locs → lv_has ls 4 [(0, .ref (xSh 0)), (1, .int p1), (2, .int p2)] → f_Sh_add_J47 gSh s0_47 = some (.inr E) → W p l e rm_Sh_add_t s m args below meth c H locs 0 0 Q (F0 m 47 ls [.int s0_47]) := by
    intro s0_47 H locs ls hP hD hS hl h
    unfold f_Sh_add_J47 at h
    refine lv_istore_n (lv' := [(3, .int s0_47), (0, .ref (xSh 0)), (1, .int p1), (2, .int p2)]) hx hb d_Sh_add_47 rfl hl (by decide) rfl (fun ls hl => ?_)
    refine lv_aload_n hx hb d_Sh_add_48 rfl (lv_at hl 1 rfl) ?_
    refine lv_dup hx hb d_Sh_add_49 rfl ?_
    refine va_get (ci := 5) (v := .int (gSh 0 2)) (C := R_Sh) (T := F_Sh) (N := 4) hx hb hts i_Sh hown hK hP 0 rfl rfl 2 (by decide) (hts _ m_180) (fun _ h9 => h9) rfl d_Sh_add_50 ?_
    refine lv_iconst (v := 1) hx hb d_Sh_add_53 (by decide) ?_
    refine lv_iadd hx hb d_Sh_add_54 ?_
    refine va_put (ci := 5) (v := .int ((gSh 0 2) + 1)) (ty := .int) (C := R_Sh) (T := F_Sh) (N := 4) hx hb hts i_Sh t_Sh o_Sh n_Sh hown hK hP hD hS 0 rfl rfl 2 (by decide) (hts _ m_180) (fun _ h9 => h9) rfl (by decide +kernel) rfl rfl (Nat.le_of_ble_eq_true rfl) d_Sh_add_55 (fun H locs hP hD hS => ?_)
    obtain ⟨gSh_3, egSh_3, h⟩ := letb_i h
    have hP : va_P D vwCl (wSh xSh cI cZ gSh_3) H := by rw [egSh_3, u_Sh_0_2]; exact hP
    have hD : va_D A (wSh xSh cI cZ gSh_3) := by rw [egSh_3, u_Sh_0_2]; exact hD
    refine lv_iload_n hx hb d_Sh_add_58 rfl (lv_at hl 0 rfl) ?_
    refine lv_if_eq (tgt := 72) hx hb d_Sh_add_59 (by decide) (fun c_4 => ?_) (fun c_4 => ?_)
    · rw [if_pos c_4] at h
      refine lv_iload_n hx hb d_Sh_add_72 rfl (lv_at hl 0 rfl) ?_
      obtain ⟨hz_5, h⟩ := gb_i h
      cases h
    · rw [if_neg c_4] at h
      refine lv_aload_n hx hb d_Sh_add_62 rfl (lv_at hl 1 rfl) ?_
      refine lv_dup hx hb d_Sh_add_63 rfl ?_
      refine va_get (ci := 5) (v := .int (gSh_3 0 3)) (C := R_Sh) (T := F_Sh) (N := 4) hx hb hts i_Sh hown hK hP 0 rfl rfl 3 (by decide) (hts _ m_182) (fun _ h9 => h9) rfl d_Sh_add_64 ?_
      refine lv_iconst (v := 1) hx hb d_Sh_add_67 (by decide) ?_
      refine lv_iadd hx hb d_Sh_add_68 ?_
      refine va_put (ci := 5) (v := .int ((gSh_3 0 3) + 1)) (ty := .int) (C := R_Sh) (T := F_Sh) (N := 4) hx hb hts i_Sh t_Sh o_Sh n_Sh hown hK hP hD hS 0 rfl rfl 3 (by decide) (hts _ m_182) (fun _ h9 => h9) rfl (by decide +kernel) rfl rfl (Nat.le_of_ble_eq_true rfl) d_Sh_add_69 (fun H locs hP hD hS => ?_)
      obtain ⟨gSh_6, egSh_6, h⟩ := letb_i h
      have hP : va_P D vwCl (wSh xSh cI cZ gSh_6) H := by rw [egSh_6, u_Sh_0_3]; exact hP
      have hD : va_D A (wSh xSh cI cZ gSh_6) := by rw [egSh_6, u_Sh_0_3]; exact hD
      refine lv_iload_n hx hb d_Sh_add_72 rfl (lv_at hl 0 rfl) ?_
      obtain ⟨hz_7, h⟩ := gb_i h
      cases h
  have K42 : ∀ (H : Heap) (locs : List Loc) (ls : Array Slot), va_P D vwCl (wSh xSh cI cZ gSh) H → va_D A (wSh xSh cI cZ gSh) → va_S A s.heap H locs → lv_has ls 4 [(0, .ref (xSh 0)), (1, .int p1), (2, .int p2)] → f_Sh_add_J42 gSh = some (.inr E) → W p l e rm_Sh_add_t s m args below meth c H locs 0 0 Q (F0 m 42 ls []) := by
    intro  H locs ls hP hD hS hl h
    unfold f_Sh_add_J42 at h
    refine lv_iconst (v := 1) hx hb d_Sh_add_42 (by decide) ?_
    refine lv_goto (tgt := 47) hx hb d_Sh_add_43 (by decide) ?_
    exact K47 1 H locs ls hP hD hS (lv_sub hl [0, 1, 2] rfl) h
  refine lv_icmp_gt (tgt := 42) hx hb d_Sh_add_21 (by decide) (fun c_8 => ?_) (fun c_8 => ?_)
  · rw [if_pos c_8] at h
    exact K42  H locs ls hP hD hS (lv_sub hl [0, 1, 2] rfl) h
  · rw [if_neg c_8] at h
    refine lv_iload_n hx hb d_Sh_add_24 rfl (lv_at hl 1 rfl) ?_
    refine lv_aload_n hx hb d_Sh_add_25 rfl (lv_at hl 0 rfl) ?_
    refine va_get (ci := 5) (v := .int (gSh 0 0)) (C := R_Sh) (T := F_Sh) (N := 4) hx hb hts i_Sh hown hK hP 0 rfl rfl 0 (by decide) (hts _ m_178) (fun _ h9 => h9) rfl d_Sh_add_26 ?_
    refine lv_iconst (v := 2) hx hb d_Sh_add_29 (by decide) ?_
    refine lv_idiv hx hb d_Sh_add_30 (by decide) ?_
    have K46 : ∀ (H : Heap) (locs : List Loc) (ls : Array Slot), va_P D vwCl (wSh xSh cI cZ gSh) H → va_D A (wSh xSh cI cZ gSh) → va_S A s.heap H locs → lv_has ls 4 [(0, .ref (xSh 0)), (1, .int p1), (2, .int p2)] → f_Sh_add_J46 gSh = some (.inr E) → W p l e rm_Sh_add_t s m args below meth c H locs 0 0 Q (F0 m 46 ls []) := by
      intro  H locs ls hP hD hS hl h
      unfold f_Sh_add_J46 at h
      refine lv_iconst (v := 0) hx hb d_Sh_add_46 (by decide) ?_
      exact K47 0 H locs ls hP hD hS (lv_sub hl [0, 1, 2] rfl) h
    refine lv_icmp_le (tgt := 46) hx hb d_Sh_add_31 (by decide) (fun c_9 => ?_) (fun c_9 => ?_)
    · rw [if_pos c_9] at h
      exact K46  H locs ls hP hD hS (lv_sub hl [0, 1, 2] rfl) h
    · rw [if_neg c_9] at h
      refine lv_iload_n hx hb d_Sh_add_34 rfl (lv_at hl 2 rfl) ?_
      refine lv_aload_n hx hb d_Sh_add_35 rfl (lv_at hl 0 rfl) ?_
      refine va_get (ci := 5) (v := .int (gSh 0 1)) (C := R_Sh) (T := F_Sh) (N := 4) hx hb hts i_Sh hown hK hP 0 rfl rfl 1 (by decide) (hts _ m_179) (fun _ h9 => h9) rfl d_Sh_add_36 ?_
      refine lv_icmp_le (tgt := 46) hx hb d_Sh_add_39 (by decide) (fun c_10 => ?_) (fun c_10 => ?_)
      · rw [if_pos c_10] at h
        exact K46  H locs ls hP hD hS (lv_sub hl [0, 1, 2] rfl) h
      · rw [if_neg c_10] at h
        exact K42  H locs ls hP hD hS (lv_sub hl [0, 1, 2] rfl) h
