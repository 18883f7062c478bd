abbrev rm_Mo_thrown_r : Room := { frames := 0, cells := 0, slots := 0, locals := 0 }
set_option maxRecDepth 100000 in
set_option maxHeartbeats 4000000 in
theorem c_Mo_thrown_r (l : Launch) (D : va_G) (cI cZ cJ : ClassId) (xMo : Nat → Nat) (sz : Nat) (gMo : St)  (r : Int32) (h : f_Mo_thrown gMo = some r) : MI l y_Mo_thrown b_Mo_thrown 1 (some .int) rm_Mo_thrown_r D (TYS cI cZ cJ) [.ref (xMo 0)] (wMo xMo cI cZ gMo) sz r (wMo xMo cI cZ gMo) := by
  refine mi_start (own := R_Mo) (by decide +kernel) rfl (Nat.le_of_ble_eq_true rfl) (fun p e s m args below meth c A ls C0 hr hlk hP hD hS hl => ?_)
  obtain ⟨Q, hQ⟩ : ∃ Q, Q = QI below D (TYS cI cZ cJ) A (wMo xMo cI cZ gMo) r args s := ⟨_, rfl⟩
  rw [← hQ]
  obtain ⟨hx, hb, -, hown, hts, hK, hE, -⟩ := id C0
  have hl : lv_has ls 1 [(0, .ref (xMo 0))] := hl
  obtain ⟨H, hH⟩ : ∃ H, H = s.heap := ⟨_, rfl⟩
  have hP : va_P D vwCl (wMo xMo cI cZ gMo) H := by rw [hH]; exact hP
  have hS : va_S A s.heap H [] := by rw [hH]; exact hS
  rw [show W p l e rm_Mo_thrown_r s m args below meth c s.heap = W p l e rm_Mo_thrown_r s m args below meth c H by rw [hH]]
  generalize ([] : List Loc) = locs at hS ⊢
  unfold f_Mo_thrown at h
  refine lv_aload_n hx hb d_Mo_thrown_0 rfl (lv_at hl 0 rfl) ?_
  refine va_get (ci := 8) (v := .int (gMo 0 0)) (C := R_Mo) (T := F_Mo) (N := 31) hx hb hts i_Mo hown hK hP 0 rfl rfl 0 (by decide) (hts _ m_704) (fun _ h9 => h9) rfl d_Mo_thrown_1 ?_
  cases h
  rw [hQ]
  exact mi_ret C0 hr rfl hlk hP hD hS d_Mo_thrown_4
abbrev rm_Mo_within_r : Room := { frames := 0, cells := 0, slots := 0, locals := 0 }
set_option maxRecDepth 100000 in
set_option maxHeartbeats 4000000 in
theorem c_Mo_within_r (l : Launch) (D : va_G) (cI cZ cJ : ClassId)  (sz : Nat)  (p1 : Int32) (p2 : Int32) (p3 : Int32) (r : Int32) (h : f_Mo_within p1 p2 p3 = some r) : MI l y_Mo_within b_Mo_within 3 (some .boolean) rm_Mo_within_r D (TYS cI cZ cJ) [.int p1, .int p2, .int p3] ([] : va_W) sz r ([] : va_W) := by
  refine mi_start (own := R_Mo) (by decide +kernel) rfl (Nat.le_of_ble_eq_true rfl) (fun p e s m args below meth c A ls C0 hr hlk hP hD hS hl => ?_)
  obtain ⟨Q, hQ⟩ : ∃ Q, Q = QI below D (TYS cI cZ cJ) A ([] : va_W) r args s := ⟨_, rfl⟩
  rw [← hQ]
  obtain ⟨hx, hb, -, hown, hts, hK, hE, -⟩ := id C0
  have hl : lv_has ls 3 [(0, .int p1), (1, .int p2), (2, .int p3)] := hl
  obtain ⟨H, hH⟩ : ∃ H, H = s.heap := ⟨_, rfl⟩
  have hP : va_P D vwCl ([] : va_W) H := by rw [hH]; exact hP
  have hS : va_S A s.heap H [] := by rw [hH]; exact hS
  rw [show W p l e rm_Mo_within_r s m args below meth c s.heap = W p l e rm_Mo_within_r s m args below meth c H by rw [hH]]
  generalize ([] : List Loc) = locs at hS ⊢
  unfold f_Mo_within at h
  refine lv_iload_n hx hb d_Mo_within_0 rfl (lv_at hl 0 rfl) ?_
  refine lv_iload_n hx hb d_Mo_within_1 rfl (lv_at hl 1 rfl) ?_
  refine lv_icmp_lt (tgt := 14) hx hb d_Mo_within_2 (by decide) (fun c_1 => ?_) (fun c_1 => ?_)
  · rw [if_pos c_1] at h
    refine lv_iconst (v := 0) hx hb d_Mo_within_14 (by decide) ?_
    cases h
    rw [hQ]
    exact mi_ret C0 hr rfl hlk hP hD hS d_Mo_within_15
  · rw [if_neg c_1] at h
    refine lv_iload_n hx hb d_Mo_within_5 rfl (lv_at hl 0 rfl) ?_
    refine lv_iload_n hx hb d_Mo_within_6 rfl (lv_at hl 2 rfl) ?_
    refine lv_icmp_gt (tgt := 14) hx hb d_Mo_within_7 (by decide) (fun c_2 => ?_) (fun c_2 => ?_)
    · rw [if_pos c_2] at h
      refine lv_iconst (v := 0) hx hb d_Mo_within_14 (by decide) ?_
      cases h
      rw [hQ]
      exact mi_ret C0 hr rfl hlk hP hD hS d_Mo_within_15
    · rw [if_neg c_2] at h
      refine lv_iconst (v := 1) hx hb d_Mo_within_10 (by decide) ?_
      refine lv_goto (tgt := 15) hx hb d_Mo_within_11 (by decide) ?_
      cases h
      rw [hQ]
      exact mi_ret C0 hr rfl hlk hP hD hS d_Mo_within_15
abbrev rm_Mo_goes_r : Room := { frames := 0, cells := 0, slots := 0, locals := 0 }
set_option maxRecDepth 100000 in
set_option maxHeartbeats 4000000 in
theorem c_Mo_goes_r (l : Launch) (D : va_G) (cI cZ cJ : ClassId) (xMo : Nat → Nat) (sz : Nat) (gMo : St) (p1 : Int32) (p2 : Int32) (p3 : Int32) (r : Int32) (gMo1 : St) (h : f_Mo_goes gMo p1 p2 p3 = some (r, gMo1)) : MI l y_Mo_goes b_Mo_goes 4 (some .boolean) rm_Mo_goes_r D (TYS cI cZ cJ) [.ref (xMo 0), .int p1, .int p2, .int p3] (wMo xMo cI cZ gMo) sz r (wMo xMo cI cZ gMo1) := by
  refine mi_start (own := R_Mo) (by decide +kernel) rfl (Nat.le_of_ble_eq_true rfl) (fun p e s m args below meth c A ls C0 hr hlk hP hD hS hl => ?_)
  obtain ⟨Q, hQ⟩ : ∃ Q, Q = QI below D (TYS cI cZ cJ) A (wMo xMo cI cZ gMo1) r args s := ⟨_, rfl⟩
  rw [← hQ]
  obtain ⟨hx, hb, -, hown, hts, hK, hE, -⟩ := id C0
  have hl : lv_has ls 4 [(0, .ref (xMo 0)), (1, .int p1), (2, .int p2), (3, .int p3)] := hl
  obtain ⟨H, hH⟩ : ∃ H, H = s.heap := ⟨_, rfl⟩
  have hP : va_P D vwCl (wMo xMo cI cZ gMo) H := by rw [hH]; exact hP
  have hS : va_S A s.heap H [] := by rw [hH]; exact hS
  rw [show W p l e rm_Mo_goes_r s m args below meth c s.heap = W p l e rm_Mo_goes_r s m args below meth c H by rw [hH]]
  generalize ([] : List Loc) = locs at hS ⊢
  unfold f_Mo_goes at h
  refine lv_aload_n hx hb d_Mo_goes_0 rfl (lv_at hl 0 rfl) ?_
  refine lv_iload_n hx hb d_Mo_goes_1 rfl (lv_at hl 1 rfl) ?_
  have K26 : ∀ (s1_26 : Int32) (H : Heap) (locs : List Loc) (ls : Array Slot), va_P D vwCl (wMo xMo cI cZ gMo) H → va_D A (wMo xMo cI cZ gMo) → va_S A s.heap H locs → lv_has ls 4 [(0, .ref (xMo 0)), (1, .int p1), (2, .int p2), (3, .int p3)] → f_Mo_goes_J26 gMo s1_26 = some (r, gMo1) → W p l e rm_Mo_goes_r s m args below meth c H locs 0 0 Q (F0 m 26 ls [.int s1_26, .ref (xMo 0)]) := by
    intro s1_26 H locs ls hP hD hS hl h
    unfold f_Mo_goes_J26 at h
    refine va_put (ci := 8) (v := .int s1_26) (ty := .int) (C := R_Mo) (T := F_Mo) (N := 31) hx hb hts i_Mo t_Mo o_Mo n_Mo hown hK hP hD hS 0 rfl rfl 0 (by decide) (hts _ m_704) (fun _ h9 => h9) rfl (by decide +kernel) rfl rfl (Nat.le_of_ble_eq_true rfl) d_Mo_goes_26 (fun H locs hP hD hS => ?_)
    obtain ⟨gMo_1, egMo_1, h⟩ := letb_i h
    have hP : va_P D vwCl (wMo xMo cI cZ gMo_1) H := by rw [egMo_1, u_Mo_0_0]; exact hP
    have hD : va_D A (wMo xMo cI cZ gMo_1) := by rw [egMo_1, u_Mo_0_0]; exact hD
    refine lv_aload_n hx hb d_Mo_goes_29 rfl (lv_at hl 0 rfl) ?_
    refine va_get (ci := 8) (v := .int (gMo_1 0 0)) (C := R_Mo) (T := F_Mo) (N := 31) hx hb hts i_Mo hown hK hP 0 rfl rfl 0 (by decide) (hts _ m_704) (fun _ h9 => h9) rfl d_Mo_goes_30 ?_
    refine lv_if_ne (tgt := 40) hx hb d_Mo_goes_33 (by decide) (fun c_2 => ?_) (fun c_2 => ?_)
    · rw [if_neg c_2] at h
      refine lv_iconst (v := 0) hx hb d_Mo_goes_40 (by decide) ?_
      cases h
      rw [hQ]
      exact mi_ret C0 hr rfl hlk hP hD hS d_Mo_goes_41
    · rw [if_pos c_2] at h
      refine lv_iconst (v := 1) hx hb d_Mo_goes_36 (by decide) ?_
      refine lv_goto (tgt := 41) hx hb d_Mo_goes_37 (by decide) ?_
      cases h
      rw [hQ]
      exact mi_ret C0 hr rfl hlk hP hD hS d_Mo_goes_41
  refine lv_if_ne (tgt := 9) hx hb d_Mo_goes_2 (by decide) (fun c_3 => ?_) (fun c_3 => ?_)
  · rw [if_neg c_3] at h
    refine lv_iload_n hx hb d_Mo_goes_9 rfl (lv_at hl 2 rfl) ?_
    refine lv_if_ne (tgt := 17) hx hb d_Mo_goes_10 (by decide) (fun c_4 => ?_) (fun c_4 => ?_)
    · rw [if_neg c_4] at h
      refine lv_iload_n hx hb d_Mo_goes_17 rfl (lv_at hl 3 rfl) ?_
      refine lv_if_ne (tgt := 25) hx hb d_Mo_goes_18 (by decide) (fun c_5 => ?_) (fun c_5 => ?_)
      · rw [if_neg c_5] at h
        refine lv_iconst (v := 0) hx hb d_Mo_goes_25 (by decide) ?_
        exact K26 0 H locs ls hP hD hS (lv_sub hl [0, 1, 2, 3] rfl) h
      · rw [if_pos c_5] at h
        refine lv_iconst (v := 3) hx hb d_Mo_goes_21 (by decide) ?_
        refine lv_goto (tgt := 26) hx hb d_Mo_goes_22 (by decide) ?_
        exact K26 3 H locs ls hP hD hS (lv_sub hl [0, 1, 2, 3] rfl) h
    · rw [if_pos c_4] at h
      refine lv_iconst (v := 2) hx hb d_Mo_goes_13 (by decide) ?_
      refine lv_goto (tgt := 26) hx hb d_Mo_goes_14 (by decide) ?_
      exact K26 2 H locs ls hP hD hS (lv_sub hl [0, 1, 2, 3] rfl) h
  · rw [if_pos c_3] at h
    refine lv_iconst (v := 1) hx hb d_Mo_goes_5 (by decide) ?_
    refine lv_goto (tgt := 26) hx hb d_Mo_goes_6 (by decide) ?_
    exact K26 1 H locs ls hP hD hS (lv_sub hl [0, 1, 2, 3] rfl) h
abbrev rm_Mo_object_r : Room := { frames := 1, cells := 0, slots := 0, locals := 23 }
set_option maxRecDepth 100000 in
set_option maxHeartbeats 4000000 in
theorem c_Mo_object_r (l : Launch) (D : va_G) (cI cZ cJ : ClassId) (xMo : Nat → Nat) (sz : Nat) (gMo : St) (p1 : Int32) (p2 : Int32) (p3 : Int32) (p4 : Int32) (r : Int32) (gMo1 : St) (h : f_Mo_object gMo p1 p2 p3 p4 = some (r, gMo1)) : MI l y_Mo_object b_Mo_object 5 (some .int) rm_Mo_object_r D (TYS cI cZ cJ) [.ref (xMo 0), .int p1, .int p2, .int p3, .int p4] (wMo xMo cI cZ gMo) sz r (wMo xMo cI cZ gMo1) := by
  refine mi_start (own := R_Mo) (by decide +kernel) rfl (Nat.le_of_ble_eq_true rfl) (fun p e s m args below meth c A ls C0 hr hlk hP hD hS hl => ?_)
  obtain ⟨Q, hQ⟩ : ∃ Q, Q = QI below D (TYS cI cZ cJ) A (wMo xMo cI cZ gMo1) r args s := ⟨_, rfl⟩
  rw [← hQ]
  obtain ⟨hx, hb, -, hown, hts, hK, hE, -⟩ := id C0
  have hl : lv_has ls 5 [(0, .ref (xMo 0)), (1, .int p1), (2, .int p2), (3, .int p3), (4, .int p4)] := hl
  obtain ⟨H, hH⟩ : ∃ H, H = s.heap := ⟨_, rfl⟩
  have hP : va_P D vwCl (wMo xMo cI cZ gMo) H := by rw [hH]; exact hP
  have hS : va_S A s.heap H [] := by rw [hH]; exact hS
  rw [show W p l e rm_Mo_object_r s m args below meth c s.heap = W p l e rm_Mo_object_r s m args below meth c H by rw [hH]]
  generalize ([] : List Loc) = locs at hS ⊢
  unfold f_Mo_object at h
  refine lv_aload_n hx hb d_Mo_object_0 rfl (lv_at hl 0 rfl) ?_
  refine lv_aload_n hx hb d_Mo_object_1 rfl (lv_at hl 0 rfl) ?_
  refine va_get (ci := 8) (v := .int (gMo 0 1)) (C := R_Mo) (T := F_Mo) (N := 31) hx hb hts i_Mo hown hK hP 0 rfl rfl 1 (by decide) (hts _ m_705) (fun _ h9 => h9) rfl d_Mo_object_2 ?_
  refine lv_bipush (v := 6) hx hb d_Mo_object_5 (by decide) ?_
  have K15 : ∀ (s1_15 : Int32) (H : Heap) (locs : List Loc) (ls : Array Slot), va_P D vwCl (wMo xMo cI cZ gMo) H → va_D A (wMo xMo cI cZ gMo) → va_S A s.heap H locs → lv_has ls 5 [(0, .ref (xMo 0)), (1, .int p1), (2, .int p2), (3, .int p3), (4, .int p4)] → f_Mo_object_J15 gMo p1 p2 p3 p4 s1_15 = some (r, gMo1) → W p l e rm_Mo_object_r s m args below meth c H locs 0 0 Q (F0 m 15 ls [.int s1_15, .ref (xMo 0)]) := by
    intro s1_15 H locs ls hP hD hS hl h
    unfold f_Mo_object_J15 at h
    refine lv_iload_n hx hb d_Mo_object_15 rfl (lv_at hl 1 rfl) ?_
    refine lv_iconst (v := 1) hx hb d_Mo_object_16 (by decide) ?_
    refine lv_sipush (v := 200) hx hb d_Mo_object_17 (by decide) ?_
    obtain ⟨r_1, hc_2, h⟩ := xv1_i h
    refine cSi (ws' := (wMo xMo cI cZ gMo)) (As := [.int p1, .int 1, .int 200]) (rest := [.int s1_15, .ref (xMo 0)]) C0 hP hD hS hl.1 [] (c_Mo_within_r l D cI cZ cJ  H.size p1 1 200 r_1 hc_2) k_Mo_within m_806 rfl rfl rfl (rp_same rfl) ⟨by decide, by decide⟩ ⟨rfl, rfl⟩ rfl (Nat.le_of_ble_eq_true rfl) d_Mo_object_20 ⟨Nat.zero_le _, Nat.zero_le _⟩ (fun H locs hP hD hS => ?_)
    have K64 : ∀ (s1_64 : Int32) (s2_64 : Int32) (H : Heap) (locs : List Loc) (ls : Array Slot), va_P D vwCl (wMo xMo cI cZ gMo) H → va_D A (wMo xMo cI cZ gMo) → va_S A s.heap H locs → lv_has ls 5 [(0, .ref (xMo 0)), (1, .int p1), (2, .int p2), (3, .int p3), (4, .int p4)] → f_Mo_object_J64 gMo p1 p2 p3 p4 s1_64 s2_64 = some (r, gMo1) → W p l e rm_Mo_object_r s m args below meth c H locs 0 0 Q (F0 m 64 ls [.int s2_64, .int s1_64, .ref (xMo 0)]) := by
      intro s1_64 s2_64 H locs ls hP hD hS hl h
      unfold f_Mo_object_J64 at h
      refine lv_iconst (v := 1) hx hb d_Mo_object_64 (by decide) ?_
      obtain ⟨r_3, gMo_4, hc_5, h⟩ := xv2_i h
      refine cVi (ws' := (wMo xMo cI cZ gMo_4)) (As := [.int s1_64, .int s2_64, .int 1]) (rest := []) C0 hP hD hS hl.1 [0, 1, 2, 3, 4, 5, 6, 7, 8, 9, 10, 11, 12, 13, 14, 15] (c_Mo_goes_r l D cI cZ cJ xMo H.size gMo s1_64 s2_64 1 r_3 gMo_4 hc_5) k_Mo_goes m_810 rfl rfl rfl rfl rfl (rp_all rfl rfl) ⟨by decide, by decide⟩ ⟨rfl, rfl⟩ rfl (Nat.le_of_ble_eq_true rfl) d_Mo_object_65 ⟨Nat.zero_le _, Nat.zero_le _⟩ (fun H locs hP hD hS => ?_)
      refine lv_if_ne (tgt := 73) hx hb d_Mo_object_68 (by decide) (fun c_6 => ?_) (fun c_6 => ?_)
      · rw [if_neg c_6] at h
        refine lv_aload_n hx hb d_Mo_object_73 rfl (lv_at hl 0 rfl) ?_
        refine va_get (ci := 8) (v := .ref (xMo 1)) (C := R_Mo) (T := F_Mo) (N := 31) hx hb hts i_Mo hown hK hP 0 rfl rfl 2 (by decide) (hts _ m_706) (fun _ h9 => h9) rfl d_Mo_object_74 ?_
        refine lv_iconst (v := 3) hx hb d_Mo_object_77 (by decide) ?_
        refine lv_aload_n hx hb d_Mo_object_78 rfl (lv_at hl 0 rfl) ?_
        refine va_get (ci := 8) (v := .int (gMo_4 0 1)) (C := R_Mo) (T := F_Mo) (N := 31) hx hb hts i_Mo hown hK hP 0 rfl rfl 1 (by decide) (hts _ m_705) (fun _ h9 => h9) rfl d_Mo_object_79 ?_
        refine lv_imul hx hb d_Mo_object_82 ?_
        refine lv_iload_n hx hb d_Mo_object_83 rfl (lv_at hl 1 rfl) ?_
        obtain ⟨hi_7, h⟩ := gb_i h
        refine va_iast hx hb hK hP hD hS 1 0 rfl rfl (inb_in hi_7) d_Mo_object_84 (fun H locs hP hD hS => ?_)
        obtain ⟨gMo_8, egMo_8, h⟩ := letb_i h
        have hP : va_P D vwCl (wMo xMo cI cZ gMo_8) H := by rw [egMo_8, u_Mo_1]; exact hP
        have hD : va_D A (wMo xMo cI cZ gMo_8) := by rw [egMo_8, u_Mo_1]; exact hD
        refine lv_aload_n hx hb d_Mo_object_85 rfl (lv_at hl 0 rfl) ?_
        refine va_get (ci := 8) (v := .ref (xMo 1)) (C := R_Mo) (T := F_Mo) (N := 31) hx hb hts i_Mo hown hK hP 0 rfl rfl 2 (by decide) (hts _ m_706) (fun _ h9 => h9) rfl d_Mo_object_86 ?_
        refine lv_iconst (v := 3) hx hb d_Mo_object_89 (by decide) ?_
        refine lv_aload_n hx hb d_Mo_object_90 rfl (lv_at hl 0 rfl) ?_
        refine va_get (ci := 8) (v := .int (gMo_8 0 1)) (C := R_Mo) (T := F_Mo) (N := 31) hx hb hts i_Mo hown hK hP 0 rfl rfl 1 (by decide) (hts _ m_705) (fun _ h9 => h9) rfl d_Mo_object_91 ?_
        refine lv_imul hx hb d_Mo_object_94 ?_
        refine lv_iconst (v := 1) hx hb d_Mo_object_95 (by decide) ?_
        refine lv_iadd hx hb d_Mo_object_96 ?_
        refine lv_iload_n hx hb d_Mo_object_97 rfl (lv_at hl 2 rfl) ?_
        obtain ⟨hi_9, h⟩ := gb_i h
        refine va_iast hx hb hK hP hD hS 1 0 rfl rfl (inb_in hi_9) d_Mo_object_98 (fun H locs hP hD hS => ?_)
        obtain ⟨gMo_10, egMo_10, h⟩ := letb_i h
        have hP : va_P D vwCl (wMo xMo cI cZ gMo_10) H := by rw [egMo_10, u_Mo_1]; exact hP
        have hD : va_D A (wMo xMo cI cZ gMo_10) := by rw [egMo_10, u_Mo_1]; exact hD
        refine lv_aload_n hx hb d_Mo_object_99 rfl (lv_at hl 0 rfl) ?_
        refine va_get (ci := 8) (v := .ref (xMo 1)) (C := R_Mo) (T := F_Mo) (N := 31) hx hb hts i_Mo hown hK hP 0 rfl rfl 2 (by decide) (hts _ m_706) (fun _ h9 => h9) rfl d_Mo_object_100 ?_
        refine lv_iconst (v := 3) hx hb d_Mo_object_103 (by decide) ?_
        refine lv_aload_n hx hb d_Mo_object_104 rfl (lv_at hl 0 rfl) ?_
        refine va_get (ci := 8) (v := .int (gMo_10 0 1)) (C := R_Mo) (T := F_Mo) (N := 31) hx hb hts i_Mo hown hK hP 0 rfl rfl 1 (by decide) (hts _ m_705) (fun _ h9 => h9) rfl d_Mo_object_105 ?_
        refine lv_imul hx hb d_Mo_object_108 ?_
        refine lv_iconst (v := 2) hx hb d_Mo_object_109 (by decide) ?_
        refine lv_iadd hx hb d_Mo_object_110 ?_
        refine lv_iload_n hx hb d_Mo_object_111 rfl (lv_at hl 3 rfl) ?_
        obtain ⟨hi_11, h⟩ := gb_i h
        refine va_iast hx hb hK hP hD hS 1 0 rfl rfl (inb_in hi_11) d_Mo_object_112 (fun H locs hP hD hS => ?_)
        obtain ⟨gMo_12, egMo_12, h⟩ := letb_i h
        have hP : va_P D vwCl (wMo xMo cI cZ gMo_12) H := by rw [egMo_12, u_Mo_1]; exact hP
        have hD : va_D A (wMo xMo cI cZ gMo_12) := by rw [egMo_12, u_Mo_1]; exact hD
        refine lv_aload_n hx hb d_Mo_object_113 rfl (lv_at hl 0 rfl) ?_
        refine va_get (ci := 8) (v := .ref (xMo 2)) (C := R_Mo) (T := F_Mo) (N := 31) hx hb hts i_Mo hown hK hP 0 rfl rfl 3 (by decide) (hts _ m_707) (fun _ h9 => h9) rfl d_Mo_object_114 ?_
        refine lv_aload_n hx hb d_Mo_object_117 rfl (lv_at hl 0 rfl) ?_
        refine va_get (ci := 8) (v := .int (gMo_12 0 1)) (C := R_Mo) (T := F_Mo) (N := 31) hx hb hts i_Mo hown hK hP 0 rfl rfl 1 (by decide) (hts _ m_705) (fun _ h9 => h9) rfl d_Mo_object_118 ?_
        refine lv_iload hx hb d_Mo_object_121 (lv_at hl 4 rfl) ?_
        obtain ⟨hi_13, h⟩ := gb_i h
        refine va_iast hx hb hK hP hD hS 2 0 rfl rfl (inb_in hi_13) d_Mo_object_123 (fun H locs hP hD hS => ?_)
        obtain ⟨gMo_14, egMo_14, h⟩ := letb_i h
        have hP : va_P D vwCl (wMo xMo cI cZ gMo_14) H := by rw [egMo_14, u_Mo_2]; exact hP
        have hD : va_D A (wMo xMo cI cZ gMo_14) := by rw [egMo_14, u_Mo_2]; exact hD
        refine lv_aload_n hx hb d_Mo_object_124 rfl (lv_at hl 0 rfl) ?_
        refine lv_dup hx hb d_Mo_object_125 rfl ?_
        refine va_get (ci := 8) (v := .int (gMo_14 0 1)) (C := R_Mo) (T := F_Mo) (N := 31) hx hb hts i_Mo hown hK hP 0 rfl rfl 1 (by decide) (hts _ m_705) (fun _ h9 => h9) rfl d_Mo_object_126 ?_
        refine lv_iconst (v := 1) hx hb d_Mo_object_129 (by decide) ?_
        refine lv_iadd hx hb d_Mo_object_130 ?_
        refine va_put (ci := 8) (v := .int ((gMo_14 0 1) + 1)) (ty := .int) (C := R_Mo) (T := F_Mo) (N := 31) hx hb hts i_Mo t_Mo o_Mo n_Mo hown hK hP hD hS 0 rfl rfl 1 (by decide) (hts _ m_705) (fun _ h9 => h9) rfl (by decide +kernel) rfl rfl (Nat.le_of_ble_eq_true rfl) d_Mo_object_131 (fun H locs hP hD hS => ?_)
        obtain ⟨gMo_15, egMo_15, h⟩ := letb_i h
        have hP : va_P D vwCl (wMo xMo cI cZ gMo_15) H := by rw [egMo_15, u_Mo_0_1]; exact hP
        have hD : va_D A (wMo xMo cI cZ gMo_15) := by rw [egMo_15, u_Mo_0_1]; exact hD
        refine lv_aload_n hx hb d_Mo_object_134 rfl (lv_at hl 0 rfl) ?_
        refine va_get (ci := 8) (v := .int (gMo_15 0 1)) (C := R_Mo) (T := F_Mo) (N := 31) hx hb hts i_Mo hown hK hP 0 rfl rfl 1 (by decide) (hts _ m_705) (fun _ h9 => h9) rfl d_Mo_object_135 ?_
        refine lv_iconst (v := 1) hx hb d_Mo_object_138 (by decide) ?_
        refine lv_isub hx hb d_Mo_object_139 ?_
        cases h
        rw [hQ]
        exact mi_ret C0 hr rfl hlk hP hD hS d_Mo_object_140
      · rw [if_pos c_6] at h
        refine lv_iconst (v := 0) hx hb d_Mo_object_71 (by decide) ?_
        cases h
        rw [hQ]
        exact mi_ret C0 hr rfl hlk hP hD hS d_Mo_object_72
    have K63 : ∀ (s1_63 : Int32) (H : Heap) (locs : List Loc) (ls : Array Slot), va_P D vwCl (wMo xMo cI cZ gMo) H → va_D A (wMo xMo cI cZ gMo) → va_S A s.heap H locs → lv_has ls 5 [(0, .ref (xMo 0)), (1, .int p1), (2, .int p2), (3, .int p3), (4, .int p4)] → f_Mo_object_J63 gMo p1 p2 p3 p4 s1_63 = some (r, gMo1) → W p l e rm_Mo_object_r s m args below meth c H locs 0 0 Q (F0 m 63 ls [.int s1_63, .ref (xMo 0)]) := by
      intro s1_63 H locs ls hP hD hS hl h
      unfold f_Mo_object_J63 at h
      refine lv_iconst (v := 0) hx hb d_Mo_object_63 (by decide) ?_
      exact K64 s1_63 0 H locs ls hP hD hS (lv_sub hl [0, 1, 2, 3, 4] rfl) h
    refine lv_if_eq (tgt := 63) hx hb d_Mo_object_23 (by decide) (fun c_16 => ?_) (fun c_16 => ?_)
    · rw [if_pos c_16] at h
      exact K63 s1_15 H locs ls hP hD hS (lv_sub hl [0, 1, 2, 3, 4] rfl) h
    · rw [if_neg c_16] at h
      refine lv_iload_n hx hb d_Mo_object_26 rfl (lv_at hl 2 rfl) ?_
      refine lv_iconst (v := 1) hx hb d_Mo_object_27 (by decide) ?_
      refine lv_sipush (v := 200) hx hb d_Mo_object_28 (by decide) ?_
      obtain ⟨r_17, hc_18, h⟩ := xv1_i h
      refine cSi (ws' := (wMo xMo cI cZ gMo)) (As := [.int p2, .int 1, .int 200]) (rest := [.int s1_15, .ref (xMo 0)]) C0 hP hD hS hl.1 [] (c_Mo_within_r l D cI cZ cJ  H.size p2 1 200 r_17 hc_18) k_Mo_within m_806 rfl rfl rfl (rp_same rfl) ⟨by decide, by decide⟩ ⟨rfl, rfl⟩ rfl (Nat.le_of_ble_eq_true rfl) d_Mo_object_31 ⟨Nat.zero_le _, Nat.zero_le _⟩ (fun H locs hP hD hS => ?_)
      refine lv_if_eq (tgt := 63) hx hb d_Mo_object_34 (by decide) (fun c_19 => ?_) (fun c_19 => ?_)
      · rw [if_pos c_19] at h
        exact K63 s1_15 H locs ls hP hD hS (lv_sub hl [0, 1, 2, 3, 4] rfl) h
      · rw [if_neg c_19] at h
        refine lv_iload_n hx hb d_Mo_object_37 rfl (lv_at hl 3 rfl) ?_
        refine lv_iconst (v := 1) hx hb d_Mo_object_38 (by decide) ?_
        refine lv_sipush (v := 200) hx hb d_Mo_object_39 (by decide) ?_
        obtain ⟨r_20, hc_21, h⟩ := xv1_i h
        refine cSi (ws' := (wMo xMo cI cZ gMo)) (As := [.int p3, .int 1, .int 200]) (rest := [.int s1_15, .ref (xMo 0)]) C0 hP hD hS hl.1 [] (c_Mo_within_r l D cI cZ cJ  H.size p3 1 200 r_20 hc_21) k_Mo_within m_806 rfl rfl rfl (rp_same rfl) ⟨by decide, by decide⟩ ⟨rfl, rfl⟩ rfl (Nat.le_of_ble_eq_true rfl) d_Mo_object_42 ⟨Nat.zero_le _, Nat.zero_le _⟩ (fun H locs hP hD hS => ?_)
        refine lv_if_eq (tgt := 63) hx hb d_Mo_object_45 (by decide) (fun c_22 => ?_) (fun c_22 => ?_)
        · rw [if_pos c_22] at h
          exact K63 s1_15 H locs ls hP hD hS (lv_sub hl [0, 1, 2, 3, 4] rfl) h
        · rw [if_neg c_22] at h
          refine lv_iload hx hb d_Mo_object_48 (lv_at hl 4 rfl) ?_
          refine lv_iconst (v := 1) hx hb d_Mo_object_50 (by decide) ?_
          refine lv_ldc hx hb hown (hts _ m_809) d_Mo_object_51 ?_
          obtain ⟨r_23, hc_24, h⟩ := xv1_i h
          refine cSi (ws' := (wMo xMo cI cZ gMo)) (As := [.int p4, .int 1, .int 100000]) (rest := [.int s1_15, .ref (xMo 0)]) C0 hP hD hS hl.1 [] (c_Mo_within_r l D cI cZ cJ  H.size p4 1 100000 r_23 hc_24) k_Mo_within m_806 rfl rfl rfl (rp_same rfl) ⟨by decide, by decide⟩ ⟨rfl, rfl⟩ rfl (Nat.le_of_ble_eq_true rfl) d_Mo_object_53 ⟨Nat.zero_le _, Nat.zero_le _⟩ (fun H locs hP hD hS => ?_)
          refine lv_if_eq (tgt := 63) hx hb d_Mo_object_56 (by decide) (fun c_25 => ?_) (fun c_25 => ?_)
          · rw [if_pos c_25] at h
            exact K63 s1_15 H locs ls hP hD hS (lv_sub hl [0, 1, 2, 3, 4] rfl) h
          · rw [if_neg c_25] at h
            refine lv_iconst (v := 1) hx hb d_Mo_object_59 (by decide) ?_
            refine lv_goto (tgt := 64) hx hb d_Mo_object_60 (by decide) ?_
            exact K64 s1_15 1 H locs ls hP hD hS (lv_sub hl [0, 1, 2, 3, 4] rfl) h
  refine lv_icmp_ge (tgt := 14) hx hb d_Mo_object_7 (by decide) (fun c_26 => ?_) (fun c_26 => ?_)
  · rw [if_pos c_26] at h
    refine lv_iconst (v := 0) hx hb d_Mo_object_14 (by decide) ?_
    exact K15 0 H locs ls hP hD hS (lv_sub hl [0, 1, 2, 3, 4] rfl) h
  · rw [if_neg c_26] at h
    refine lv_iconst (v := 1) hx hb d_Mo_object_10 (by decide) ?_
    refine lv_goto (tgt := 15) hx hb d_Mo_object_11 (by decide) ?_
    exact K15 1 H locs ls hP hD hS (lv_sub hl [0, 1, 2, 3, 4] rfl) h
abbrev rm_Mo_isObject_r : Room := { frames := 0, cells := 0, slots := 0, locals := 0 }
set_option maxRecDepth 100000 in
set_option maxHeartbeats 4000000 in
theorem c_Mo_isObject_r (l : Launch) (D : va_G) (cI cZ cJ : ClassId) (xMo : Nat → Nat) (sz : Nat) (gMo : St) (p1 : Int32) (r : Int32) (h : f_Mo_isObject gMo p1 = some r) : MI l y_Mo_isObject b_Mo_isObject 2 (some .boolean) rm_Mo_isObject_r D (TYS cI cZ cJ) [.ref (xMo 0), .int p1] (wMo xMo cI cZ gMo) sz r (wMo xMo cI cZ gMo) := by
  refine mi_start (own := R_Mo) (by decide +kernel) rfl (Nat.le_of_ble_eq_true rfl) (fun p e s m args below meth c A ls C0 hr hlk hP hD hS hl => ?_)
  obtain ⟨Q, hQ⟩ : ∃ Q, Q = QI below D (TYS cI cZ cJ) A (wMo xMo cI cZ gMo) r args s := ⟨_, rfl⟩
  rw [← hQ]
  obtain ⟨hx, hb, -, hown, hts, hK, hE, -⟩ := id C0
  have hl : lv_has ls 2 [(0, .ref (xMo 0)), (1, .int p1)] := hl
  obtain ⟨H, hH⟩ : ∃ H, H = s.heap := ⟨_, rfl⟩
  have hP : va_P D vwCl (wMo xMo cI cZ gMo) H := by rw [hH]; exact hP
  have hS : va_S A s.heap H [] := by rw [hH]; exact hS
  rw [show W p l e rm_Mo_isObject_r s m args below meth c s.heap = W p l e rm_Mo_isObject_r s m args below meth c H by rw [hH]]
  generalize ([] : List Loc) = locs at hS ⊢
  unfold f_Mo_isObject at h
  refine lv_iload_n hx hb d_Mo_isObject_0 rfl (lv_at hl 1 rfl) ?_
  refine lv_if_lt (tgt := 16) hx hb d_Mo_isObject_1 (by decide) (fun c_1 => ?_) (fun c_1 => ?_)
  · rw [if_pos c_1] at h
    refine lv_iconst (v := 0) hx hb d_Mo_isObject_16 (by decide) ?_
    cases h
    rw [hQ]
    exact mi_ret C0 hr rfl hlk hP hD hS d_Mo_isObject_17
  · rw [if_neg c_1] at h
    refine lv_iload_n hx hb d_Mo_isObject_4 rfl (lv_at hl 1 rfl) ?_
    refine lv_aload_n hx hb d_Mo_isObject_5 rfl (lv_at hl 0 rfl) ?_
    refine va_get (ci := 8) (v := .int (gMo 0 1)) (C := R_Mo) (T := F_Mo) (N := 31) hx hb hts i_Mo hown hK hP 0 rfl rfl 1 (by decide) (hts _ m_705) (fun _ h9 => h9) rfl d_Mo_isObject_6 ?_
    refine lv_icmp_ge (tgt := 16) hx hb d_Mo_isObject_9 (by decide) (fun c_2 => ?_) (fun c_2 => ?_)
    · rw [if_pos c_2] at h
      refine lv_iconst (v := 0) hx hb d_Mo_isObject_16 (by decide) ?_
      cases h
      rw [hQ]
      exact mi_ret C0 hr rfl hlk hP hD hS d_Mo_isObject_17
    · rw [if_neg c_2] at h
      refine lv_iconst (v := 1) hx hb d_Mo_isObject_12 (by decide) ?_
      refine lv_goto (tgt := 17) hx hb d_Mo_isObject_13 (by decide) ?_
      cases h
      rw [hQ]
      exact mi_ret C0 hr rfl hlk hP hD hS d_Mo_isObject_17
abbrev rm_Mo_weak_r : Room := { frames := 1, cells := 0, slots := 0, locals := 23 }
set_option maxRecDepth 100000 in
set_option maxHeartbeats 4000000 in
theorem c_Mo_weak_r (l : Launch) (D : va_G) (cI cZ cJ : ClassId) (xMo : Nat → Nat) (sz : Nat) (gMo : St) (p1 : Int32) (p2 : Int32) (p3 : Int32) (r : Int32) (gMo1 : St) (h : f_Mo_weak gMo p1 p2 p3 = some (r, gMo1)) : MI l y_Mo_weak b_Mo_weak 5 (some .boolean) rm_Mo_weak_r D (TYS cI cZ cJ) [.ref (xMo 0), .int p1, .int p2, .int p3] (wMo xMo cI cZ gMo) sz r (wMo xMo cI cZ gMo1) := by
  refine mi_start (own := R_Mo) (by decide +kernel) rfl (Nat.le_of_ble_eq_true rfl) (fun p e s m args below meth c A ls C0 hr hlk hP hD hS hl => ?_)
  obtain ⟨Q, hQ⟩ : ∃ Q, Q = QI below D (TYS cI cZ cJ) A (wMo xMo cI cZ gMo1) r args s := ⟨_, rfl⟩
  rw [← hQ]
  obtain ⟨hx, hb, -, hown, hts, hK, hE, -⟩ := id C0
  have hl : lv_has ls 5 [(0, .ref (xMo 0)), (1, .int p1), (2, .int p2), (3, .int p3)] := hl
  obtain ⟨H, hH⟩ : ∃ H, H = s.heap := ⟨_, rfl⟩
  have hP : va_P D vwCl (wMo xMo cI cZ gMo) H := by rw [hH]; exact hP
  have hS : va_S A s.heap H [] := by rw [hH]; exact hS
  rw [show W p l e rm_Mo_weak_r s m args below meth c s.heap = W p l e rm_Mo_weak_r s m args below meth c H by rw [hH]]
  generalize ([] : List Loc) = locs at hS ⊢
  unfold f_Mo_weak at h
  refine lv_aload_n hx hb d_Mo_weak_0 rfl (lv_at hl 0 rfl) ?_
  refine lv_aload_n hx hb d_Mo_weak_1 rfl (lv_at hl 0 rfl) ?_
  refine lv_iload_n hx hb d_Mo_weak_2 rfl (lv_at hl 1 rfl) ?_
  obtain ⟨r_1, hc_2, h⟩ := xv1_i h
  refine cVi (ws' := (wMo xMo cI cZ gMo)) (As := [.int p1]) (rest := [.ref (xMo 0)]) C0 hP hD hS hl.1 [0, 1, 2, 3, 4, 5, 6, 7, 8, 9, 10, 11, 12, 13, 14, 15] (c_Mo_isObject_r l D cI cZ cJ xMo H.size gMo p1 r_1 hc_2) k_Mo_isObject m_818 rfl rfl rfl rfl rfl (rp_same rfl) ⟨by decide, by decide⟩ ⟨rfl, rfl⟩ rfl (Nat.le_of_ble_eq_true rfl) d_Mo_weak_3 ⟨Nat.zero_le _, Nat.zero_le _⟩ (fun H locs hP hD hS => ?_)
  have K23 : ∀ (s1_23 : Int32) (H : Heap) (locs : List Loc) (ls : Array Slot), va_P D vwCl (wMo xMo cI cZ gMo) H → va_D A (wMo xMo cI cZ gMo) → va_S A s.heap H locs → lv_has ls 5 [(0, .ref (xMo 0)), (1, .int p1), (2, .int p2), (3, .int p3)] → f_Mo_weak_J23 gMo p1 p2 p3 s1_23 = some (r, gMo1) → W p l e rm_Mo_weak_r s m args below meth c H locs 0 0 Q (F0 m 23 ls [.int s1_23, .ref (xMo 0)]) := by
    intro s1_23 H locs ls hP hD hS hl h
    unfold f_Mo_weak_J23 at h
    refine lv_iconst (v := 1) hx hb d_Mo_weak_23 (by decide) ?_
    refine lv_iconst (v := 1) hx hb d_Mo_weak_24 (by decide) ?_
    obtain ⟨r_3, gMo_4, hc_5, h⟩ := xv2_i h
    refine cVi (ws' := (wMo xMo cI cZ gMo_4)) (As := [.int s1_23, .int 1, .int 1]) (rest := []) C0 hP hD hS hl.1 [0, 1, 2, 3, 4, 5, 6, 7, 8, 9, 10, 11, 12, 13, 14, 15] (c_Mo_goes_r l D cI cZ cJ xMo H.size gMo s1_23 1 1 r_3 gMo_4 hc_5) k_Mo_goes m_810 rfl rfl rfl rfl rfl (rp_all rfl rfl) ⟨by decide, by decide⟩ ⟨rfl, rfl⟩ rfl (Nat.le_of_ble_eq_true rfl) d_Mo_weak_25 ⟨Nat.zero_le _, Nat.zero_le _⟩ (fun H locs hP hD hS => ?_)
    refine lv_if_ne (tgt := 33) hx hb d_Mo_weak_28 (by decide) (fun c_6 => ?_) (fun c_6 => ?_)
    · rw [if_neg c_6] at h
      refine lv_aload_n hx hb d_Mo_weak_33 rfl (lv_at hl 0 rfl) ?_
      refine va_get (ci := 8) (v := .ref (xMo 3)) (C := R_Mo) (T := F_Mo) (N := 31) hx hb hts i_Mo hown hK hP 0 rfl rfl 4 (by decide) (hts _ m_708) (fun _ h9 => h9) rfl d_Mo_weak_34 ?_
      refine lv_bipush (v := 6) hx hb d_Mo_weak_37 (by decide) ?_
      refine lv_iload_n hx hb d_Mo_weak_39 rfl (lv_at hl 1 rfl) ?_
      refine lv_imul hx hb d_Mo_weak_40 ?_
      refine lv_iload_n hx hb d_Mo_weak_41 rfl (lv_at hl 2 rfl) ?_
      refine lv_iadd hx hb d_Mo_weak_42 ?_
      obtain ⟨hi_7, h⟩ := gb_i h
      refine va_zald hx hb hK hP 3 1 rfl rfl (inb_in hi_7) d_Mo_weak_43 ?_
      obtain ⟨x_8, ex_8, h⟩ := letb_i h
      refine lv_topn ex_8 ?_
      refine lv_istore (lv' := [(4, .int x_8), (0, .ref (xMo 0)), (1, .int p1), (2, .int p2), (3, .int p3)]) hx hb d_Mo_weak_44 hl (by decide) rfl (fun ls hl => ?_)
      refine lv_aload_n hx hb d_Mo_weak_46 rfl (lv_at hl 1 rfl) ?_
      refine va_get (ci := 8) (v := .ref (xMo 3)) (C := R_Mo) (T := F_Mo) (N := 31) hx hb hts i_Mo hown hK hP 0 rfl rfl 4 (by decide) (hts _ m_708) (fun _ h9 => h9) rfl d_Mo_weak_47 ?_
      refine lv_bipush (v := 6) hx hb d_Mo_weak_50 (by decide) ?_
      refine lv_iload_n hx hb d_Mo_weak_52 rfl (lv_at hl 2 rfl) ?_
      refine lv_imul hx hb d_Mo_weak_53 ?_
      refine lv_iload_n hx hb d_Mo_weak_54 rfl (lv_at hl 3 rfl) ?_
      refine lv_iadd hx hb d_Mo_weak_55 ?_
      refine lv_iload_n hx hb d_Mo_weak_56 rfl (lv_at hl 4 rfl) ?_
      obtain ⟨hi_9, h⟩ := gb_i h
      refine va_zast hx hb hK hP hD hS 3 1 rfl rfl (inb_in hi_9) d_Mo_weak_57 (fun H locs hP hD hS => ?_)
      obtain ⟨gMo_10, egMo_10, h⟩ := letb_i h
      have hP : va_P D vwCl (wMo xMo cI cZ gMo_10) H := by rw [egMo_10, u_Mo_3]; exact hP
      have hD : va_D A (wMo xMo cI cZ gMo_10) := by rw [egMo_10, u_Mo_3]; exact hD
      refine lv_iload hx hb d_Mo_weak_58 (lv_at hl 0 rfl) ?_
      refine lv_iload_n hx hb d_Mo_weak_60 rfl (lv_at hl 4 rfl) ?_
      refine lv_icmp_eq (tgt := 68) hx hb d_Mo_weak_61 (by decide) (fun c_11 => ?_) (fun c_11 => ?_)
      · rw [if_pos c_11] at h
        refine lv_iconst (v := 0) hx hb d_Mo_weak_68 (by decide) ?_
        cases h
        rw [hQ]
        exact mi_ret C0 hr rfl hlk hP hD hS d_Mo_weak_69
      · rw [if_neg c_11] at h
        refine lv_iconst (v := 1) hx hb d_Mo_weak_64 (by decide) ?_
        refine lv_goto (tgt := 69) hx hb d_Mo_weak_65 (by decide) ?_
        cases h
        rw [hQ]
        exact mi_ret C0 hr rfl hlk hP hD hS d_Mo_weak_69
    · rw [if_pos c_6] at h
      refine lv_iconst (v := 0) hx hb d_Mo_weak_31 (by decide) ?_
      cases h
      rw [hQ]
      exact mi_ret C0 hr rfl hlk hP hD hS d_Mo_weak_32
  have K22 : ∀ (H : Heap) (locs : List Loc) (ls : Array Slot), va_P D vwCl (wMo xMo cI cZ gMo) H → va_D A (wMo xMo cI cZ gMo) → va_S A s.heap H locs → lv_has ls 5 [(0, .ref (xMo 0)), (1, .int p1), (2, .int p2), (3, .int p3)] → f_Mo_weak_J22 gMo p1 p2 p3 = some (r, gMo1) → W p l e rm_Mo_weak_r s m args below meth c H locs 0 0 Q (F0 m 22 ls [.ref (xMo 0)]) := by
    intro  H locs ls hP hD hS hl h
    unfold f_Mo_weak_J22 at h
    refine lv_iconst (v := 0) hx hb d_Mo_weak_22 (by decide) ?_
    exact K23 0 H locs ls hP hD hS (lv_sub hl [0, 1, 2, 3] rfl) h
  refine lv_if_eq (tgt := 22) hx hb d_Mo_weak_6 (by decide) (fun c_12 => ?_) (fun c_12 => ?_)
  · rw [if_pos c_12] at h
    exact K22  H locs ls hP hD hS (lv_sub hl [0, 1, 2, 3] rfl) h
  · rw [if_neg c_12] at h
    refine lv_iload_n hx hb d_Mo_weak_9 rfl (lv_at hl 2 rfl) ?_
    refine lv_iconst (v := 0) hx hb d_Mo_weak_10 (by decide) ?_
    refine lv_iconst (v := 5) hx hb d_Mo_weak_11 (by decide) ?_
    obtain ⟨r_13, hc_14, h⟩ := xv1_i h
    refine cSi (ws' := (wMo xMo cI cZ gMo)) (As := [.int p2, .int 0, .int 5]) (rest := [.ref (xMo 0)]) C0 hP hD hS hl.1 [] (c_Mo_within_r l D cI cZ cJ  H.size p2 0 5 r_13 hc_14) k_Mo_within m_806 rfl rfl rfl (rp_same rfl) ⟨by decide, by decide⟩ ⟨rfl, rfl⟩ rfl (Nat.le_of_ble_eq_true rfl) d_Mo_weak_12 ⟨Nat.zero_le _, Nat.zero_le _⟩ (fun H locs hP hD hS => ?_)
    refine lv_if_eq (tgt := 22) hx hb d_Mo_weak_15 (by decide) (fun c_15 => ?_) (fun c_15 => ?_)
    · rw [if_pos c_15] at h
      exact K22  H locs ls hP hD hS (lv_sub hl [0, 1, 2, 3] rfl) h
    · rw [if_neg c_15] at h
      refine lv_iconst (v := 1) hx hb d_Mo_weak_18 (by decide) ?_
      refine lv_goto (tgt := 23) hx hb d_Mo_weak_19 (by decide) ?_
      exact K23 1 H locs ls hP hD hS (lv_sub hl [0, 1, 2, 3] rfl) h
abbrev rm_Mo_foam_r : Room := { frames := 1, cells := 0, slots := 0, locals := 23 }
set_option maxRecDepth 100000 in
set_option maxHeartbeats 4000000 in
theorem c_Mo_foam_r (l : Launch) (D : va_G) (cI cZ cJ : ClassId) (xMo : Nat → Nat) (sz : Nat) (gMo : St) (p1 : Int32) (p2 : Int32) (r : Int32) (gMo1 : St) (h : f_Mo_foam gMo p1 p2 = some (r, gMo1)) : MI l y_Mo_foam b_Mo_foam 5 (some .int) rm_Mo_foam_r D (TYS cI cZ cJ) [.ref (xMo 0), .int p1, .int p2] (wMo xMo cI cZ gMo) sz r (wMo xMo cI cZ gMo1) := by
  refine mi_start (own := R_Mo) (by decide +kernel) rfl (Nat.le_of_ble_eq_true rfl) (fun p e s m args below meth c A ls C0 hr hlk hP hD hS hl => ?_)
  obtain ⟨Q, hQ⟩ : ∃ Q, Q = QI below D (TYS cI cZ cJ) A (wMo xMo cI cZ gMo1) r args s := ⟨_, rfl⟩
  rw [← hQ]
  obtain ⟨hx, hb, -, hown, hts, hK, hE, -⟩ := id C0
  have hl : lv_has ls 5 [(0, .ref (xMo 0)), (1, .int p1), (2, .int p2)] := hl
  obtain ⟨H, hH⟩ : ∃ H, H = s.heap := ⟨_, rfl⟩
  have hP : va_P D vwCl (wMo xMo cI cZ gMo) H := by rw [hH]; exact hP
  have hS : va_S A s.heap H [] := by rw [hH]; exact hS
  rw [show W p l e rm_Mo_foam_r s m args below meth c s.heap = W p l e rm_Mo_foam_r s m args below meth c H by rw [hH]]
  generalize ([] : List Loc) = locs at hS ⊢
  unfold f_Mo_foam at h
  refine lv_iload_n hx hb d_Mo_foam_0 rfl (lv_at hl 1 rfl) ?_
  refine lv_iconst (v := 0) hx hb d_Mo_foam_1 (by decide) ?_
  refine lv_iconst (v := 3) hx hb d_Mo_foam_2 (by decide) ?_
  obtain ⟨r_1, hc_2, h⟩ := xv1_i h
  refine cSi (ws' := (wMo xMo cI cZ gMo)) (As := [.int p1, .int 0, .int 3]) (rest := []) C0 hP hD hS hl.1 [] (c_Mo_within_r l D cI cZ cJ  H.size p1 0 3 r_1 hc_2) k_Mo_within m_806 rfl rfl rfl (rp_same rfl) ⟨by decide, by decide⟩ ⟨rfl, rfl⟩ rfl (Nat.le_of_ble_eq_true rfl) d_Mo_foam_3 ⟨Nat.zero_le _, Nat.zero_le _⟩ (fun H locs hP hD hS => ?_)
  refine lv_istore_n (lv' := [(3, .int r_1), (0, .ref (xMo 0)), (1, .int p1), (2, .int p2)]) hx hb d_Mo_foam_6 rfl hl (by decide) rfl (fun ls hl => ?_)
  refine lv_iload_n hx hb d_Mo_foam_7 rfl (lv_at hl 0 rfl) ?_
  have K21 : ∀ (s0_21 : Int32) (v3_21 : Int32) (H : Heap) (locs : List Loc) (ls : Array Slot), va_P D vwCl (wMo xMo cI cZ gMo) H → va_D A (wMo xMo cI cZ gMo) → va_S A s.heap H locs → lv_has ls 5 [(0, .ref (xMo 0)), (1, .int p1), (2, .int p2), (3, .int v3_21)] → f_Mo_foam_J21 gMo p1 p2 s0_21 v3_21 = some (r, gMo1) → W p l e rm_Mo_foam_r s m args below meth c H locs 0 0 Q (F0 m 21 ls [.int s0_21]) := by
    intro s0_21 v3_21 H locs ls hP hD hS hl h
    unfold f_Mo_foam_J21 at h
    refine lv_istore (lv' := [(4, .int s0_21), (0, .ref (xMo 0)), (1, .int p1), (2, .int p2), (3, .int v3_21)]) hx hb d_Mo_foam_21 hl (by decide) rfl (fun ls hl => ?_)
    refine lv_aload_n hx hb d_Mo_foam_23 rfl (lv_at hl 1 rfl) ?_
    refine lv_iload_n hx hb d_Mo_foam_24 rfl (lv_at hl 4 rfl) ?_
    refine lv_iload hx hb d_Mo_foam_25 (lv_at hl 0 rfl) ?_
    refine lv_bipush (v := 8) hx hb d_Mo_foam_27 (by decide) ?_
    have K37 : ∀ (s1_37 : Int32) (s2_37 : Int32) (v3_37 : Int32) (v4_37 : Int32) (H : Heap) (locs : List Loc) (ls : Array Slot), va_P D vwCl (wMo xMo cI cZ gMo) H → va_D A (wMo xMo cI cZ gMo) → va_S A s.heap H locs → lv_has ls 5 [(0, .ref (xMo 0)), (1, .int p1), (2, .int p2), (3, .int v3_37), (4, .int v4_37)] → f_Mo_foam_J37 gMo p1 p2 s1_37 s2_37 v3_37 v4_37 = some (r, gMo1) → W p l e rm_Mo_foam_r s m args below meth c H locs 0 0 Q (F0 m 37 ls [.int s2_37, .int s1_37, .ref (xMo 0)]) := by
      intro s1_37 s2_37 v3_37 v4_37 H locs ls hP hD hS hl h
      unfold f_Mo_foam_J37 at h
      refine lv_iload_n hx hb d_Mo_foam_37 rfl (lv_at hl 2 rfl) ?_
      refine lv_iconst (v := 1) hx hb d_Mo_foam_38 (by decide) ?_
      refine lv_sipush (v := 500) hx hb d_Mo_foam_39 (by decide) ?_
      obtain ⟨r_3, hc_4, h⟩ := xv1_i h
      refine cSi (ws' := (wMo xMo cI cZ gMo)) (As := [.int p2, .int 1, .int 500]) (rest := [.int s2_37, .int s1_37, .ref (xMo 0)]) C0 hP hD hS hl.1 [] (c_Mo_within_r l D cI cZ cJ  H.size p2 1 500 r_3 hc_4) k_Mo_within m_806 rfl rfl rfl (rp_same rfl) ⟨by decide, by decide⟩ ⟨rfl, rfl⟩ rfl (Nat.le_of_ble_eq_true rfl) d_Mo_foam_42 ⟨Nat.zero_le _, Nat.zero_le _⟩ (fun H locs hP hD hS => ?_)
      have K76 : ∀ (s1_76 : Int32) (s2_76 : Int32) (s3_76 : Int32) (v3_76 : Int32) (v4_76 : Int32) (H : Heap) (locs : List Loc) (ls : Array Slot), va_P D vwCl (wMo xMo cI cZ gMo) H → va_D A (wMo xMo cI cZ gMo) → va_S A s.heap H locs → lv_has ls 5 [(0, .ref (xMo 0)), (1, .int p1), (2, .int p2), (3, .int v3_76), (4, .int v4_76)] → f_Mo_foam_J76 gMo p1 p2 s1_76 s2_76 s3_76 v3_76 v4_76 = some (r, gMo1) → W p l e rm_Mo_foam_r s m args below meth c H locs 0 0 Q (F0 m 76 ls [.int s3_76, .int s2_76, .int s1_76, .ref (xMo 0)]) := by
        intro s1_76 s2_76 s3_76 v3_76 v4_76 H locs ls hP hD hS hl h
        unfold f_Mo_foam_J76 at h
        obtain ⟨r_5, gMo_6, hc_7, h⟩ := xv2_i h
        refine cVi (ws' := (wMo xMo cI cZ gMo_6)) (As := [.int s1_76, .int s2_76, .int s3_76]) (rest := []) C0 hP hD hS hl.1 [0, 1, 2, 3, 4, 5, 6, 7, 8, 9, 10, 11, 12, 13, 14, 15] (c_Mo_goes_r l D cI cZ cJ xMo H.size gMo s1_76 s2_76 s3_76 r_5 gMo_6 hc_7) k_Mo_goes m_810 rfl rfl rfl rfl rfl (rp_all rfl rfl) ⟨by decide, by decide⟩ ⟨rfl, rfl⟩ rfl (Nat.le_of_ble_eq_true rfl) d_Mo_foam_76 ⟨Nat.zero_le _, Nat.zero_le _⟩ (fun H locs hP hD hS => ?_)
        refine lv_if_ne (tgt := 84) hx hb d_Mo_foam_79 (by decide) (fun c_8 => ?_) (fun c_8 => ?_)
        · rw [if_neg c_8] at h
          refine lv_aload_n hx hb d_Mo_foam_84 rfl (lv_at hl 0 rfl) ?_
          refine va_get (ci := 8) (v := .ref (xMo 5)) (C := R_Mo) (T := F_Mo) (N := 31) hx hb hts i_Mo hown hK hP 0 rfl rfl 6 (by decide) (hts _ m_710) (fun _ h9 => h9) rfl d_Mo_foam_85 ?_
          refine lv_bipush (v := 8) hx hb d_Mo_foam_88 (by decide) ?_
          refine lv_iload_n hx hb d_Mo_foam_90 rfl (lv_at hl 1 rfl) ?_
          refine lv_imul hx hb d_Mo_foam_91 ?_
          refine lv_iload hx hb d_Mo_foam_92 (lv_at hl 4 rfl) ?_
          refine lv_iadd hx hb d_Mo_foam_94 ?_
          refine lv_iload_n hx hb d_Mo_foam_95 rfl (lv_at hl 2 rfl) ?_
          obtain ⟨hi_9, h⟩ := gb_i h
          refine va_iast hx hb hK hP hD hS 5 0 rfl rfl (inb_in hi_9) d_Mo_foam_96 (fun H locs hP hD hS => ?_)
          obtain ⟨gMo_10, egMo_10, h⟩ := letb_i h
          have hP : va_P D vwCl (wMo xMo cI cZ gMo_10) H := by rw [egMo_10, u_Mo_5]; exact hP
          have hD : va_D A (wMo xMo cI cZ gMo_10) := by rw [egMo_10, u_Mo_5]; exact hD
          refine lv_aload_n hx hb d_Mo_foam_97 rfl (lv_at hl 0 rfl) ?_
          refine va_get (ci := 8) (v := .ref (xMo 4)) (C := R_Mo) (T := F_Mo) (N := 31) hx hb hts i_Mo hown hK hP 0 rfl rfl 5 (by decide) (hts _ m_709) (fun _ h9 => h9) rfl d_Mo_foam_98 ?_
          refine lv_iload_n hx hb d_Mo_foam_101 rfl (lv_at hl 1 rfl) ?_
          refine lv_dup2_11 hx hb d_Mo_foam_102 rfl rfl ?_
          obtain ⟨hi_11, h⟩ := gb_i h
          refine va_iald hx hb hK hP 4 0 rfl rfl (inb_in hi_11) d_Mo_foam_103 ?_
          obtain ⟨x_12, ex_12, h⟩ := letb_i h
          refine lv_topn ex_12 ?_
          refine lv_iconst (v := 1) hx hb d_Mo_foam_104 (by decide) ?_
          refine lv_iadd hx hb d_Mo_foam_105 ?_
          obtain ⟨hi_13, h⟩ := gb_i h
          refine va_iast hx hb hK hP hD hS 4 0 rfl rfl (inb_in hi_13) d_Mo_foam_106 (fun H locs hP hD hS => ?_)
          obtain ⟨gMo_14, egMo_14, h⟩ := letb_i h
          have hP : va_P D vwCl (wMo xMo cI cZ gMo_14) H := by rw [egMo_14, u_Mo_4]; exact hP
          have hD : va_D A (wMo xMo cI cZ gMo_14) := by rw [egMo_14, u_Mo_4]; exact hD
          refine lv_iload hx hb d_Mo_foam_107 (lv_at hl 4 rfl) ?_
          cases h
          rw [hQ]
          exact mi_ret C0 hr rfl hlk hP hD hS d_Mo_foam_109
        · rw [if_pos c_8] at h
          refine lv_iconst (v := 0) hx hb d_Mo_foam_82 (by decide) ?_
          cases h
          rw [hQ]
          exact mi_ret C0 hr rfl hlk hP hD hS d_Mo_foam_83
      have K75 : ∀ (s1_75 : Int32) (s2_75 : Int32) (v3_75 : Int32) (v4_75 : Int32) (H : Heap) (locs : List Loc) (ls : Array Slot), va_P D vwCl (wMo xMo cI cZ gMo) H → va_D A (wMo xMo cI cZ gMo) → va_S A s.heap H locs → lv_has ls 5 [(0, .ref (xMo 0)), (1, .int p1), (2, .int p2), (3, .int v3_75), (4, .int v4_75)] → f_Mo_foam_J75 gMo p1 p2 s1_75 s2_75 v3_75 v4_75 = some (r, gMo1) → W p l e rm_Mo_foam_r s m args below meth c H locs 0 0 Q (F0 m 75 ls [.int s2_75, .int s1_75, .ref (xMo 0)]) := by
        intro s1_75 s2_75 v3_75 v4_75 H locs ls hP hD hS hl h
        unfold f_Mo_foam_J75 at h
        refine lv_iconst (v := 0) hx hb d_Mo_foam_75 (by decide) ?_
        exact K76 s1_75 s2_75 0 v3_75 v4_75 H locs ls hP hD hS (lv_sub hl [0, 1, 2, 3, 4] rfl) h
      refine lv_if_eq (tgt := 75) hx hb d_Mo_foam_45 (by decide) (fun c_15 => ?_) (fun c_15 => ?_)
      · rw [if_pos c_15] at h
        exact K75 s1_37 s2_37 v3_37 v4_37 H locs ls hP hD hS (lv_sub hl [0, 1, 2, 3, 4] rfl) h
      · rw [if_neg c_15] at h
        refine lv_iload hx hb d_Mo_foam_48 (lv_at hl 4 rfl) ?_
        have K71 : ∀ (s1_71 : Int32) (s2_71 : Int32) (v3_71 : Int32) (v4_71 : Int32) (H : Heap) (locs : List Loc) (ls : Array Slot), va_P D vwCl (wMo xMo cI cZ gMo) H → va_D A (wMo xMo cI cZ gMo) → va_S A s.heap H locs → lv_has ls 5 [(0, .ref (xMo 0)), (1, .int p1), (2, .int p2), (3, .int v3_71), (4, .int v4_71)] → f_Mo_foam_J71 gMo p1 p2 s1_71 s2_71 v3_71 v4_71 = some (r, gMo1) → W p l e rm_Mo_foam_r s m args below meth c H locs 0 0 Q (F0 m 71 ls [.int s2_71, .int s1_71, .ref (xMo 0)]) := by
          intro s1_71 s2_71 v3_71 v4_71 H locs ls hP hD hS hl h
          unfold f_Mo_foam_J71 at h
          refine lv_iconst (v := 1) hx hb d_Mo_foam_71 (by decide) ?_
          refine lv_goto (tgt := 76) hx hb d_Mo_foam_72 (by decide) ?_
          exact K76 s1_71 s2_71 1 v3_71 v4_71 H locs ls hP hD hS (lv_sub hl [0, 1, 2, 3, 4] rfl) h
        refine lv_if_eq (tgt := 71) hx hb d_Mo_foam_50 (by decide) (fun c_16 => ?_) (fun c_16 => ?_)
        · rw [if_pos c_16] at h
          exact K71 s1_37 s2_37 v3_37 v4_37 H locs ls hP hD hS (lv_sub hl [0, 1, 2, 3, 4] rfl) h
        · rw [if_neg c_16] at h
          refine lv_iload_n hx hb d_Mo_foam_53 rfl (lv_at hl 2 rfl) ?_
          refine lv_aload_n hx hb d_Mo_foam_54 rfl (lv_at hl 0 rfl) ?_
          refine va_get (ci := 8) (v := .ref (xMo 5)) (C := R_Mo) (T := F_Mo) (N := 31) hx hb hts i_Mo hown hK hP 0 rfl rfl 6 (by decide) (hts _ m_710) (fun _ h9 => h9) rfl d_Mo_foam_55 ?_
          refine lv_bipush (v := 8) hx hb d_Mo_foam_58 (by decide) ?_
          refine lv_iload_n hx hb d_Mo_foam_60 rfl (lv_at hl 1 rfl) ?_
          refine lv_imul hx hb d_Mo_foam_61 ?_
          refine lv_iload hx hb d_Mo_foam_62 (lv_at hl 4 rfl) ?_
          refine lv_iadd hx hb d_Mo_foam_64 ?_
          refine lv_iconst (v := 1) hx hb d_Mo_foam_65 (by decide) ?_
          refine lv_isub hx hb d_Mo_foam_66 ?_
          obtain ⟨hi_17, h⟩ := gb_i h
          refine va_iald hx hb hK hP 5 0 rfl rfl (inb_in hi_17) d_Mo_foam_67 ?_
          obtain ⟨x_18, ex_18, h⟩ := letb_i h
          refine lv_topn ex_18 ?_
          refine lv_icmp_le (tgt := 75) hx hb d_Mo_foam_68 (by decide) (fun c_19 => ?_) (fun c_19 => ?_)
          · rw [if_pos c_19] at h
            exact K75 s1_37 s2_37 v3_37 v4_37 H locs ls hP hD hS (lv_sub hl [0, 1, 2, 3, 4] rfl) h
          · rw [if_neg c_19] at h
            exact K71 s1_37 s2_37 v3_37 v4_37 H locs ls hP hD hS (lv_sub hl [0, 1, 2, 3, 4] rfl) h
    refine lv_icmp_ge (tgt := 36) hx hb d_Mo_foam_29 (by decide) (fun c_20 => ?_) (fun c_20 => ?_)
    · rw [if_pos c_20] at h
      refine lv_iconst (v := 0) hx hb d_Mo_foam_36 (by decide) ?_
      exact K37 v3_21 0 v3_21 s0_21 H locs ls hP hD hS (lv_sub hl [1, 2, 3, 4, 0] rfl) h
    · rw [if_neg c_20] at h
      refine lv_iconst (v := 1) hx hb d_Mo_foam_32 (by decide) ?_
      refine lv_goto (tgt := 37) hx hb d_Mo_foam_33 (by decide) ?_
      exact K37 v3_21 1 v3_21 s0_21 H locs ls hP hD hS (lv_sub hl [1, 2, 3, 4, 0] rfl) h
  refine lv_if_eq (tgt := 20) hx hb d_Mo_foam_8 (by decide) (fun c_21 => ?_) (fun c_21 => ?_)
  · rw [if_pos c_21] at h
    refine lv_iconst (v := 0) hx hb d_Mo_foam_20 (by decide) ?_
    exact K21 0 r_1 H locs ls hP hD hS (lv_sub hl [1, 2, 3, 0] rfl) h
  · rw [if_neg c_21] at h
    refine lv_aload_n hx hb d_Mo_foam_11 rfl (lv_at hl 1 rfl) ?_
    refine va_get (ci := 8) (v := .ref (xMo 4)) (C := R_Mo) (T := F_Mo) (N := 31) hx hb hts i_Mo hown hK hP 0 rfl rfl 5 (by decide) (hts _ m_709) (fun _ h9 => h9) rfl d_Mo_foam_12 ?_
    refine lv_iload_n hx hb d_Mo_foam_15 rfl (lv_at hl 2 rfl) ?_
    obtain ⟨hi_22, h⟩ := gb_i h
    refine va_iald hx hb hK hP 4 0 rfl rfl (inb_in hi_22) d_Mo_foam_16 ?_
    obtain ⟨x_23, ex_23, h⟩ := letb_i h
    refine lv_topn ex_23 ?_
    refine lv_goto (tgt := 21) hx hb d_Mo_foam_17 (by decide) ?_
    exact K21 x_23 r_1 H locs ls hP hD hS (lv_sub hl [1, 2, 3, 0] rfl) h
abbrev rm_Mo_isRow_r : Room := { frames := 1, cells := 0, slots := 0, locals := 22 }
set_option maxRecDepth 100000 in
set_option maxHeartbeats 4000000 in
theorem c_Mo_isRow_r (l : Launch) (D : va_G) (cI cZ cJ : ClassId) (xMo : Nat → Nat) (sz : Nat) (gMo : St) (p1 : Int32) (p2 : Int32) (r : Int32) (h : f_Mo_isRow gMo p1 p2 = some r) : MI l y_Mo_isRow b_Mo_isRow 3 (some .boolean) rm_Mo_isRow_r D (TYS cI cZ cJ) [.ref (xMo 0), .int p1, .int p2] (wMo xMo cI cZ gMo) sz r (wMo xMo cI cZ gMo) := by
  refine mi_start (own := R_Mo) (by decide +kernel) rfl (Nat.le_of_ble_eq_true rfl) (fun p e s m args below meth c A ls C0 hr hlk hP hD hS hl => ?_)
  obtain ⟨Q, hQ⟩ : ∃ Q, Q = QI below D (TYS cI cZ cJ) A (wMo xMo cI cZ gMo) r args s := ⟨_, rfl⟩
  rw [← hQ]
  obtain ⟨hx, hb, -, hown, hts, hK, hE, -⟩ := id C0
  have hl : lv_has ls 3 [(0, .ref (xMo 0)), (1, .int p1), (2, .int p2)] := hl
  obtain ⟨H, hH⟩ : ∃ H, H = s.heap := ⟨_, rfl⟩
  have hP : va_P D vwCl (wMo xMo cI cZ gMo) H := by rw [hH]; exact hP
  have hS : va_S A s.heap H [] := by rw [hH]; exact hS
  rw [show W p l e rm_Mo_isRow_r s m args below meth c s.heap = W p l e rm_Mo_isRow_r s m args below meth c H by rw [hH]]
  generalize ([] : List Loc) = locs at hS ⊢
  unfold f_Mo_isRow at h
  refine lv_iload_n hx hb d_Mo_isRow_0 rfl (lv_at hl 1 rfl) ?_
  refine lv_iconst (v := 0) hx hb d_Mo_isRow_1 (by decide) ?_
  refine lv_iconst (v := 3) hx hb d_Mo_isRow_2 (by decide) ?_
  obtain ⟨r_1, hc_2, h⟩ := xv1_i h
  refine cSi (ws' := (wMo xMo cI cZ gMo)) (As := [.int p1, .int 0, .int 3]) (rest := []) C0 hP hD hS hl.1 [] (c_Mo_within_r l D cI cZ cJ  H.size p1 0 3 r_1 hc_2) k_Mo_within m_806 rfl rfl rfl (rp_same rfl) ⟨by decide, by decide⟩ ⟨rfl, rfl⟩ rfl (Nat.le_of_ble_eq_true rfl) d_Mo_isRow_3 ⟨Nat.zero_le _, Nat.zero_le _⟩ (fun H locs hP hD hS => ?_)
  refine lv_if_eq (tgt := 27) hx hb d_Mo_isRow_6 (by decide) (fun c_3 => ?_) (fun c_3 => ?_)
  · rw [if_pos c_3] at h
    refine lv_iconst (v := 0) hx hb d_Mo_isRow_27 (by decide) ?_
    cases h
    rw [hQ]
    exact mi_ret C0 hr rfl hlk hP hD hS d_Mo_isRow_28
  · rw [if_neg c_3] at h
    refine lv_iload_n hx hb d_Mo_isRow_9 rfl (lv_at hl 2 rfl) ?_
    refine lv_if_lt (tgt := 27) hx hb d_Mo_isRow_10 (by decide) (fun c_4 => ?_) (fun c_4 => ?_)
    · rw [if_pos c_4] at h
      refine lv_iconst (v := 0) hx hb d_Mo_isRow_27 (by decide) ?_
      cases h
      rw [hQ]
      exact mi_ret C0 hr rfl hlk hP hD hS d_Mo_isRow_28
    · rw [if_neg c_4] at h
      refine lv_iload_n hx hb d_Mo_isRow_13 rfl (lv_at hl 2 rfl) ?_
      refine lv_aload_n hx hb d_Mo_isRow_14 rfl (lv_at hl 0 rfl) ?_
      refine va_get (ci := 8) (v := .ref (xMo 4)) (C := R_Mo) (T := F_Mo) (N := 31) hx hb hts i_Mo hown hK hP 0 rfl rfl 5 (by decide) (hts _ m_709) (fun _ h9 => h9) rfl d_Mo_isRow_15 ?_
      refine lv_iload_n hx hb d_Mo_isRow_18 rfl (lv_at hl 1 rfl) ?_
      obtain ⟨hi_5, h⟩ := gb_i h
      refine va_iald hx hb hK hP 4 0 rfl rfl (inb_in hi_5) d_Mo_isRow_19 ?_
      obtain ⟨x_6, ex_6, h⟩ := letb_i h
      refine lv_topn ex_6 ?_
      refine lv_icmp_ge (tgt := 27) hx hb d_Mo_isRow_20 (by decide) (fun c_7 => ?_) (fun c_7 => ?_)
      · rw [if_pos c_7] at h
        refine lv_iconst (v := 0) hx hb d_Mo_isRow_27 (by decide) ?_
        cases h
        rw [hQ]
        exact mi_ret C0 hr rfl hlk hP hD hS d_Mo_isRow_28
      · rw [if_neg c_7] at h
        refine lv_iconst (v := 1) hx hb d_Mo_isRow_23 (by decide) ?_
        refine lv_goto (tgt := 28) hx hb d_Mo_isRow_24 (by decide) ?_
        cases h
        rw [hQ]
        exact mi_ret C0 hr rfl hlk hP hD hS d_Mo_isRow_28
abbrev rm_Mo_point_r : Room := { frames := 2, cells := 0, slots := 0, locals := 44 }
set_option maxRecDepth 100000 in
set_option maxHeartbeats 4000000 in
theorem c_Mo_point_r (l : Launch) (D : va_G) (cI cZ cJ : ClassId) (xMo : Nat → Nat) (sz : Nat) (gMo : St) (p1 : Int32) (p2 : Int32) (p3 : Int32) (p4 : Int32) (r : Int32) (gMo1 : St) (h : f_Mo_point gMo p1 p2 p3 p4 = some (r, gMo1)) : MI l y_Mo_point b_Mo_point 9 (some .int) rm_Mo_point_r D (TYS cI cZ cJ) [.ref (xMo 0), .int p1, .int p2, .int p3, .int p4] (wMo xMo cI cZ gMo) sz r (wMo xMo cI cZ gMo1) := by
  refine mi_start (own := R_Mo) (by decide +kernel) rfl (Nat.le_of_ble_eq_true rfl) (fun p e s m args below meth c A ls C0 hr hlk hP hD hS hl => ?_)
  obtain ⟨Q, hQ⟩ : ∃ Q, Q = QI below D (TYS cI cZ cJ) A (wMo xMo cI cZ gMo1) r args s := ⟨_, rfl⟩
  rw [← hQ]
  obtain ⟨hx, hb, -, hown, hts, hK, hE, -⟩ := id C0
  have hl : lv_has ls 9 [(0, .ref (xMo 0)), (1, .int p1), (2, .int p2), (3, .int p3), (4, .int p4)] := hl
  obtain ⟨H, hH⟩ : ∃ H, H = s.heap := ⟨_, rfl⟩
  have hP : va_P D vwCl (wMo xMo cI cZ gMo) H := by rw [hH]; exact hP
  have hS : va_S A s.heap H [] := by rw [hH]; exact hS
  rw [show W p l e rm_Mo_point_r s m args below meth c s.heap = W p l e rm_Mo_point_r s m args below meth c H by rw [hH]]
  generalize ([] : List Loc) = locs at hS ⊢
  unfold f_Mo_point at h
  refine lv_aload_n hx hb d_Mo_point_0 rfl (lv_at hl 0 rfl) ?_
  refine lv_iload_n hx hb d_Mo_point_1 rfl (lv_at hl 1 rfl) ?_
  refine lv_iload_n hx hb d_Mo_point_2 rfl (lv_at hl 2 rfl) ?_
  obtain ⟨r_1, hc_2, h⟩ := xv1_i h
  refine cVi (ws' := (wMo xMo cI cZ gMo)) (As := [.int p1, .int p2]) (rest := []) C0 hP hD hS hl.1 [0, 1, 2, 3, 4, 5, 6, 7, 8, 9, 10, 11, 12, 13, 14, 15] (c_Mo_isRow_r l D cI cZ cJ xMo H.size gMo p1 p2 r_1 hc_2) k_Mo_isRow m_830 rfl rfl rfl rfl rfl (rp_same rfl) ⟨by decide, by decide⟩ ⟨rfl, rfl⟩ rfl (Nat.le_of_ble_eq_true rfl) d_Mo_point_3 ⟨Nat.zero_le _, Nat.zero_le _⟩ (fun H locs hP hD hS => ?_)
  refine lv_istore (lv' := [(5, .int r_1), (0, .ref (xMo 0)), (1, .int p1), (2, .int p2), (3, .int p3), (4, .int p4)]) hx hb d_Mo_point_6 hl (by decide) rfl (fun ls hl => ?_)
  refine lv_iload hx hb d_Mo_point_8 (lv_at hl 0 rfl) ?_
  have K23 : ∀ (s0_23 : Int32) (v5_23 : Int32) (H : Heap) (locs : List Loc) (ls : Array Slot), va_P D vwCl (wMo xMo cI cZ gMo) H → va_D A (wMo xMo cI cZ gMo) → va_S A s.heap H locs → lv_has ls 9 [(0, .ref (xMo 0)), (1, .int p1), (2, .int p2), (3, .int p3), (4, .int p4), (5, .int v5_23)] → f_Mo_point_J23 gMo p3 p4 s0_23 v5_23 = some (r, gMo1) → W p l e rm_Mo_point_r s m args below meth c H locs 0 0 Q (F0 m 23 ls [.int s0_23]) := by
    intro s0_23 v5_23 H locs ls hP hD hS hl h
    unfold f_Mo_point_J23 at h
    refine lv_istore (lv' := [(6, .int s0_23), (0, .ref (xMo 0)), (1, .int p1), (2, .int p2), (3, .int p3), (4, .int p4), (5, .int v5_23)]) hx hb d_Mo_point_23 hl (by decide) rfl (fun ls hl => ?_)
    refine lv_iload hx hb d_Mo_point_25 (lv_at hl 6 rfl) ?_
    have K41 : ∀ (s0_41 : Int32) (v5_41 : Int32) (v6_41 : Int32) (H : Heap) (locs : List Loc) (ls : Array Slot), va_P D vwCl (wMo xMo cI cZ gMo) H → va_D A (wMo xMo cI cZ gMo) → va_S A s.heap H locs → lv_has ls 9 [(0, .ref (xMo 0)), (1, .int p1), (2, .int p2), (3, .int p3), (4, .int p4), (5, .int v5_41), (6, .int v6_41)] → f_Mo_point_J41 gMo p3 p4 s0_41 v5_41 v6_41 = some (r, gMo1) → W p l e rm_Mo_point_r s m args below meth c H locs 0 0 Q (F0 m 41 ls [.int s0_41]) := by
      intro s0_41 v5_41 v6_41 H locs ls hP hD hS hl h
      unfold f_Mo_point_J41 at h
      refine lv_istore (lv' := [(7, .int s0_41), (0, .ref (xMo 0)), (1, .int p1), (2, .int p2), (3, .int p3), (4, .int p4), (5, .int v5_41), (6, .int v6_41)]) hx hb d_Mo_point_41 hl (by decide) rfl (fun ls hl => ?_)
      refine lv_iload hx hb d_Mo_point_43 (lv_at hl 0 rfl) ?_
      have K72 : ∀ (s0_72 : Int32) (v5_72 : Int32) (v6_72 : Int32) (v7_72 : Int32) (H : Heap) (locs : List Loc) (ls : Array Slot), va_P D vwCl (wMo xMo cI cZ gMo) H → va_D A (wMo xMo cI cZ gMo) → va_S A s.heap H locs → lv_has ls 9 [(0, .ref (xMo 0)), (1, .int p1), (2, .int p2), (3, .int p3), (4, .int p4), (5, .int v5_72), (6, .int v6_72), (7, .int v7_72)] → f_Mo_point_J72 gMo p3 p4 s0_72 v5_72 v6_72 v7_72 = some (r, gMo1) → W p l e rm_Mo_point_r s m args below meth c H locs 0 0 Q (F0 m 72 ls [.int s0_72]) := by
        intro s0_72 v5_72 v6_72 v7_72 H locs ls hP hD hS hl h
        unfold f_Mo_point_J72 at h
        refine lv_istore (lv' := [(8, .int s0_72), (0, .ref (xMo 0)), (1, .int p1), (2, .int p2), (3, .int p3), (4, .int p4), (5, .int v5_72), (6, .int v6_72), (7, .int v7_72)]) hx hb d_Mo_point_72 hl (by decide) rfl (fun ls hl => ?_)
        refine lv_aload_n hx hb d_Mo_point_74 rfl (lv_at hl 1 rfl) ?_
        refine lv_iload hx hb d_Mo_point_75 (lv_at hl 6 rfl) ?_
        refine lv_iload hx hb d_Mo_point_77 (lv_at hl 8 rfl) ?_
        refine lv_bipush (v := 6) hx hb d_Mo_point_79 (by decide) ?_
        have K89 : ∀ (s1_89 : Int32) (s2_89 : Int32) (v5_89 : Int32) (v6_89 : Int32) (v7_89 : Int32) (v8_89 : Int32) (H : Heap) (locs : List Loc) (ls : Array Slot), va_P D vwCl (wMo xMo cI cZ gMo) H → va_D A (wMo xMo cI cZ gMo) → va_S A s.heap H locs → lv_has ls 9 [(0, .ref (xMo 0)), (1, .int p1), (2, .int p2), (3, .int p3), (4, .int p4), (5, .int v5_89), (6, .int v6_89), (7, .int v7_89), (8, .int v8_89)] → f_Mo_point_J89 gMo p3 p4 s1_89 s2_89 v5_89 v6_89 v7_89 v8_89 = some (r, gMo1) → W p l e rm_Mo_point_r s m args below meth c H locs 0 0 Q (F0 m 89 ls [.int s2_89, .int s1_89, .ref (xMo 0)]) := by
          intro s1_89 s2_89 v5_89 v6_89 v7_89 v8_89 H locs ls hP hD hS hl h
          unfold f_Mo_point_J89 at h
          refine lv_iload_n hx hb d_Mo_point_89 rfl (lv_at hl 3 rfl) ?_
          refine lv_iconst (v := 0) hx hb d_Mo_point_90 (by decide) ?_
          refine lv_sipush (v := 10000) hx hb d_Mo_point_91 (by decide) ?_
          obtain ⟨r_3, hc_4, h⟩ := xv1_i h
          refine cSi (ws' := (wMo xMo cI cZ gMo)) (As := [.int p3, .int 0, .int 10000]) (rest := [.int s2_89, .int s1_89, .ref (xMo 0)]) C0 hP hD hS hl.1 [] (c_Mo_within_r l D cI cZ cJ  H.size p3 0 10000 r_3 hc_4) k_Mo_within m_806 rfl rfl rfl (rp_same rfl) ⟨by decide, by decide⟩ ⟨rfl, rfl⟩ rfl (Nat.le_of_ble_eq_true rfl) d_Mo_point_94 ⟨Nat.zero_le _, Nat.zero_le _⟩ (fun H locs hP hD hS => ?_)
          have K122 : ∀ (s1_122 : Int32) (s2_122 : Int32) (s3_122 : Int32) (v5_122 : Int32) (v6_122 : Int32) (v7_122 : Int32) (v8_122 : Int32) (H : Heap) (locs : List Loc) (ls : Array Slot), va_P D vwCl (wMo xMo cI cZ gMo) H → va_D A (wMo xMo cI cZ gMo) → va_S A s.heap H locs → lv_has ls 9 [(0, .ref (xMo 0)), (1, .int p1), (2, .int p2), (3, .int p3), (4, .int p4), (5, .int v5_122), (6, .int v6_122), (7, .int v7_122), (8, .int v8_122)] → f_Mo_point_J122 gMo p3 p4 s1_122 s2_122 s3_122 v5_122 v6_122 v7_122 v8_122 = some (r, gMo1) → W p l e rm_Mo_point_r s m args below meth c H locs 0 0 Q (F0 m 122 ls [.int s3_122, .int s2_122, .int s1_122, .ref (xMo 0)]) := by
            intro s1_122 s2_122 s3_122 v5_122 v6_122 v7_122 v8_122 H locs ls hP hD hS hl h
            unfold f_Mo_point_J122 at h
            obtain ⟨r_5, gMo_6, hc_7, h⟩ := xv2_i h
            refine cVi (ws' := (wMo xMo cI cZ gMo_6)) (As := [.int s1_122, .int s2_122, .int s3_122]) (rest := []) C0 hP hD hS hl.1 [0, 1, 2, 3, 4, 5, 6, 7, 8, 9, 10, 11, 12, 13, 14, 15] (c_Mo_goes_r l D cI cZ cJ xMo H.size gMo s1_122 s2_122 s3_122 r_5 gMo_6 hc_7) k_Mo_goes m_810 rfl rfl rfl rfl rfl (rp_all rfl rfl) ⟨by decide, by decide⟩ ⟨rfl, rfl⟩ rfl (Nat.le_of_ble_eq_true rfl) d_Mo_point_122 ⟨Nat.zero_le _, Nat.zero_le _⟩ (fun H locs hP hD hS => ?_)
            refine lv_if_ne (tgt := 130) hx hb d_Mo_point_125 (by decide) (fun c_8 => ?_) (fun c_8 => ?_)
            · rw [if_neg c_8] at h
              refine lv_aload_n hx hb d_Mo_point_130 rfl (lv_at hl 0 rfl) ?_
              refine va_get (ci := 8) (v := .ref (xMo 7)) (C := R_Mo) (T := F_Mo) (N := 31) hx hb hts i_Mo hown hK hP 0 rfl rfl 8 (by decide) (hts _ m_712) (fun _ h9 => h9) rfl d_Mo_point_131 ?_
              refine lv_bipush (v := 6) hx hb d_Mo_point_134 (by decide) ?_
              refine lv_iload hx hb d_Mo_point_136 (lv_at hl 6 rfl) ?_
              refine lv_imul hx hb d_Mo_point_138 ?_
              refine lv_iload hx hb d_Mo_point_139 (lv_at hl 7 rfl) ?_
              refine lv_iadd hx hb d_Mo_point_141 ?_
              refine lv_iload_n hx hb d_Mo_point_142 rfl (lv_at hl 3 rfl) ?_
              obtain ⟨hi_9, h⟩ := gb_i h
              refine va_iast hx hb hK hP hD hS 7 0 rfl rfl (inb_in hi_9) d_Mo_point_143 (fun H locs hP hD hS => ?_)
              obtain ⟨gMo_10, egMo_10, h⟩ := letb_i h
              have hP : va_P D vwCl (wMo xMo cI cZ gMo_10) H := by rw [egMo_10, u_Mo_7]; exact hP
              have hD : va_D A (wMo xMo cI cZ gMo_10) := by rw [egMo_10, u_Mo_7]; exact hD
              refine lv_aload_n hx hb d_Mo_point_144 rfl (lv_at hl 0 rfl) ?_
              refine va_get (ci := 8) (v := .ref (xMo 8)) (C := R_Mo) (T := F_Mo) (N := 31) hx hb hts i_Mo hown hK hP 0 rfl rfl 9 (by decide) (hts _ m_713) (fun _ h9 => h9) rfl d_Mo_point_145 ?_
              refine lv_bipush (v := 6) hx hb d_Mo_point_148 (by decide) ?_
              refine lv_iload hx hb d_Mo_point_150 (lv_at hl 6 rfl) ?_
              refine lv_imul hx hb d_Mo_point_152 ?_
              refine lv_iload hx hb d_Mo_point_153 (lv_at hl 7 rfl) ?_
              refine lv_iadd hx hb d_Mo_point_155 ?_
              refine lv_iload hx hb d_Mo_point_156 (lv_at hl 4 rfl) ?_
              obtain ⟨hi_11, h⟩ := gb_i h
              refine va_iast hx hb hK hP hD hS 8 0 rfl rfl (inb_in hi_11) d_Mo_point_158 (fun H locs hP hD hS => ?_)
              obtain ⟨gMo_12, egMo_12, h⟩ := letb_i h
              have hP : va_P D vwCl (wMo xMo cI cZ gMo_12) H := by rw [egMo_12, u_Mo_8]; exact hP
              have hD : va_D A (wMo xMo cI cZ gMo_12) := by rw [egMo_12, u_Mo_8]; exact hD
              refine lv_aload_n hx hb d_Mo_point_159 rfl (lv_at hl 0 rfl) ?_
              refine va_get (ci := 8) (v := .ref (xMo 6)) (C := R_Mo) (T := F_Mo) (N := 31) hx hb hts i_Mo hown hK hP 0 rfl rfl 7 (by decide) (hts _ m_711) (fun _ h9 => h9) rfl d_Mo_point_160 ?_
              refine lv_iload hx hb d_Mo_point_163 (lv_at hl 6 rfl) ?_
              refine lv_dup2_11 hx hb d_Mo_point_165 rfl rfl ?_
              obtain ⟨hi_13, h⟩ := gb_i h
              refine va_iald hx hb hK hP 6 0 rfl rfl (inb_in hi_13) d_Mo_point_166 ?_
              obtain ⟨x_14, ex_14, h⟩ := letb_i h
              refine lv_topn ex_14 ?_
              refine lv_iconst (v := 1) hx hb d_Mo_point_167 (by decide) ?_
              refine lv_iadd hx hb d_Mo_point_168 ?_
              obtain ⟨hi_15, h⟩ := gb_i h
              refine va_iast hx hb hK hP hD hS 6 0 rfl rfl (inb_in hi_15) d_Mo_point_169 (fun H locs hP hD hS => ?_)
              obtain ⟨gMo_16, egMo_16, h⟩ := letb_i h
              have hP : va_P D vwCl (wMo xMo cI cZ gMo_16) H := by rw [egMo_16, u_Mo_6]; exact hP
              have hD : va_D A (wMo xMo cI cZ gMo_16) := by rw [egMo_16, u_Mo_6]; exact hD
              refine lv_iload hx hb d_Mo_point_170 (lv_at hl 7 rfl) ?_
              refine lv_iconst (v := 1) hx hb d_Mo_point_172 (by decide) ?_
              refine lv_iadd hx hb d_Mo_point_173 ?_
              cases h
              rw [hQ]
              exact mi_ret C0 hr rfl hlk hP hD hS d_Mo_point_174
            · rw [if_pos c_8] at h
              refine lv_iconst (v := 0) hx hb d_Mo_point_128 (by decide) ?_
              cases h
              rw [hQ]
              exact mi_ret C0 hr rfl hlk hP hD hS d_Mo_point_129
          have K121 : ∀ (s1_121 : Int32) (s2_121 : Int32) (v5_121 : Int32) (v6_121 : Int32) (v7_121 : Int32) (v8_121 : Int32) (H : Heap) (locs : List Loc) (ls : Array Slot), va_P D vwCl (wMo xMo cI cZ gMo) H → va_D A (wMo xMo cI cZ gMo) → va_S A s.heap H locs → lv_has ls 9 [(0, .ref (xMo 0)), (1, .int p1), (2, .int p2), (3, .int p3), (4, .int p4), (5, .int v5_121), (6, .int v6_121), (7, .int v7_121), (8, .int v8_121)] → f_Mo_point_J121 gMo p3 p4 s1_121 s2_121 v5_121 v6_121 v7_121 v8_121 = some (r, gMo1) → W p l e rm_Mo_point_r s m args below meth c H locs 0 0 Q (F0 m 121 ls [.int s2_121, .int s1_121, .ref (xMo 0)]) := by
            intro s1_121 s2_121 v5_121 v6_121 v7_121 v8_121 H locs ls hP hD hS hl h
            unfold f_Mo_point_J121 at h
            refine lv_iconst (v := 0) hx hb d_Mo_point_121 (by decide) ?_
            exact K122 s1_121 s2_121 0 v5_121 v6_121 v7_121 v8_121 H locs ls hP hD hS (lv_sub hl [0, 1, 2, 3, 4, 5, 6, 7, 8] rfl) h
          refine lv_if_eq (tgt := 121) hx hb d_Mo_point_97 (by decide) (fun c_17 => ?_) (fun c_17 => ?_)
          · rw [if_pos c_17] at h
            exact K121 s1_89 s2_89 v5_89 v6_89 v7_89 v8_89 H locs ls hP hD hS (lv_sub hl [0, 1, 2, 3, 4, 5, 6, 7, 8] rfl) h
          · rw [if_neg c_17] at h
            refine lv_iload hx hb d_Mo_point_100 (lv_at hl 4 rfl) ?_
            refine lv_iconst (v := 1) hx hb d_Mo_point_102 (by decide) ?_
            refine lv_sipush (v := 1000) hx hb d_Mo_point_103 (by decide) ?_
            obtain ⟨r_18, hc_19, h⟩ := xv1_i h
            refine cSi (ws' := (wMo xMo cI cZ gMo)) (As := [.int p4, .int 1, .int 1000]) (rest := [.int s2_89, .int s1_89, .ref (xMo 0)]) C0 hP hD hS hl.1 [] (c_Mo_within_r l D cI cZ cJ  H.size p4 1 1000 r_18 hc_19) k_Mo_within m_806 rfl rfl rfl (rp_same rfl) ⟨by decide, by decide⟩ ⟨rfl, rfl⟩ rfl (Nat.le_of_ble_eq_true rfl) d_Mo_point_106 ⟨Nat.zero_le _, Nat.zero_le _⟩ (fun H locs hP hD hS => ?_)
            refine lv_if_eq (tgt := 121) hx hb d_Mo_point_109 (by decide) (fun c_20 => ?_) (fun c_20 => ?_)
            · rw [if_pos c_20] at h
              exact K121 s1_89 s2_89 v5_89 v6_89 v7_89 v8_89 H locs ls hP hD hS (lv_sub hl [0, 1, 2, 3, 4, 5, 6, 7, 8] rfl) h
            · rw [if_neg c_20] at h
              refine lv_iload hx hb d_Mo_point_112 (lv_at hl 8 rfl) ?_
              refine lv_if_eq (tgt := 121) hx hb d_Mo_point_114 (by decide) (fun c_21 => ?_) (fun c_21 => ?_)
              · rw [if_pos c_21] at h
                exact K121 s1_89 s2_89 v5_89 v6_89 v7_89 v8_89 H locs ls hP hD hS (lv_sub hl [0, 1, 2, 3, 4, 5, 6, 7, 8] rfl) h
              · rw [if_neg c_21] at h
                refine lv_iconst (v := 1) hx hb d_Mo_point_117 (by decide) ?_
                refine lv_goto (tgt := 122) hx hb d_Mo_point_118 (by decide) ?_
                exact K122 s1_89 s2_89 1 v5_89 v6_89 v7_89 v8_89 H locs ls hP hD hS (lv_sub hl [0, 1, 2, 3, 4, 5, 6, 7, 8] rfl) h
        refine lv_icmp_ge (tgt := 88) hx hb d_Mo_point_81 (by decide) (fun c_22 => ?_) (fun c_22 => ?_)
        · rw [if_pos c_22] at h
          refine lv_iconst (v := 0) hx hb d_Mo_point_88 (by decide) ?_
          exact K89 v5_72 0 v5_72 v6_72 v7_72 s0_72 H locs ls hP hD hS (lv_sub hl [1, 2, 3, 4, 5, 6, 7, 8, 0] rfl) h
        · rw [if_neg c_22] at h
          refine lv_iconst (v := 1) hx hb d_Mo_point_84 (by decide) ?_
          refine lv_goto (tgt := 89) hx hb d_Mo_point_85 (by decide) ?_
          exact K89 v5_72 1 v5_72 v6_72 v7_72 s0_72 H locs ls hP hD hS (lv_sub hl [1, 2, 3, 4, 5, 6, 7, 8, 0] rfl) h
      have K67 : ∀ (v5_67 : Int32) (v6_67 : Int32) (v7_67 : Int32) (H : Heap) (locs : List Loc) (ls : Array Slot), va_P D vwCl (wMo xMo cI cZ gMo) H → va_D A (wMo xMo cI cZ gMo) → va_S A s.heap H locs → lv_has ls 9 [(0, .ref (xMo 0)), (1, .int p1), (2, .int p2), (3, .int p3), (4, .int p4), (5, .int v5_67), (6, .int v6_67), (7, .int v7_67)] → f_Mo_point_J67 gMo p3 p4 v5_67 v6_67 v7_67 = some (r, gMo1) → W p l e rm_Mo_point_r s m args below meth c H locs 0 0 Q (F0 m 67 ls []) := by
        intro v5_67 v6_67 v7_67 H locs ls hP hD hS hl h
        unfold f_Mo_point_J67 at h
        refine lv_iconst (v := 1) hx hb d_Mo_point_67 (by decide) ?_
        refine lv_goto (tgt := 72) hx hb d_Mo_point_68 (by decide) ?_
        exact K72 1 v5_67 v6_67 v7_67 H locs ls hP hD hS (lv_sub hl [0, 1, 2, 3, 4, 5, 6, 7] rfl) h
      refine lv_if_eq (tgt := 67) hx hb d_Mo_point_45 (by decide) (fun c_23 => ?_) (fun c_23 => ?_)
      · rw [if_pos c_23] at h
        exact K67 v5_41 v6_41 s0_41 H locs ls hP hD hS (lv_sub hl [1, 2, 3, 4, 5, 6, 7, 0] rfl) h
      · rw [if_neg c_23] at h
        refine lv_iload_n hx hb d_Mo_point_48 rfl (lv_at hl 4 rfl) ?_
        refine lv_aload_n hx hb d_Mo_point_49 rfl (lv_at hl 1 rfl) ?_
        refine va_get (ci := 8) (v := .ref (xMo 7)) (C := R_Mo) (T := F_Mo) (N := 31) hx hb hts i_Mo hown hK hP 0 rfl rfl 8 (by decide) (hts _ m_712) (fun _ h9 => h9) rfl d_Mo_point_50 ?_
        refine lv_bipush (v := 6) hx hb d_Mo_point_53 (by decide) ?_
        refine lv_iload hx hb d_Mo_point_55 (lv_at hl 7 rfl) ?_
        refine lv_imul hx hb d_Mo_point_57 ?_
        refine lv_iload hx hb d_Mo_point_58 (lv_at hl 0 rfl) ?_
        refine lv_iadd hx hb d_Mo_point_60 ?_
        refine lv_iconst (v := 1) hx hb d_Mo_point_61 (by decide) ?_
        refine lv_isub hx hb d_Mo_point_62 ?_
        obtain ⟨hi_24, h⟩ := gb_i h
        refine va_iald hx hb hK hP 7 0 rfl rfl (inb_in hi_24) d_Mo_point_63 ?_
        obtain ⟨x_25, ex_25, h⟩ := letb_i h
        refine lv_topn ex_25 ?_
        refine lv_icmp_le (tgt := 71) hx hb d_Mo_point_64 (by decide) (fun c_26 => ?_) (fun c_26 => ?_)
        · rw [if_pos c_26] at h
          refine lv_iconst (v := 0) hx hb d_Mo_point_71 (by decide) ?_
          exact K72 0 v5_41 v6_41 s0_41 H locs ls hP hD hS (lv_sub hl [1, 2, 3, 4, 5, 6, 7, 0] rfl) h
        · rw [if_neg c_26] at h
          exact K67 v5_41 v6_41 s0_41 H locs ls hP hD hS (lv_sub hl [1, 2, 3, 4, 5, 6, 7, 0] rfl) h
    refine lv_if_eq (tgt := 40) hx hb d_Mo_point_27 (by decide) (fun c_27 => ?_) (fun c_27 => ?_)
    · rw [if_pos c_27] at h
      refine lv_iconst (v := 0) hx hb d_Mo_point_40 (by decide) ?_
      exact K41 0 v5_23 s0_23 H locs ls hP hD hS (lv_sub hl [1, 2, 3, 4, 5, 6, 0] rfl) h
    · rw [if_neg c_27] at h
      refine lv_aload_n hx hb d_Mo_point_30 rfl (lv_at hl 1 rfl) ?_
      refine va_get (ci := 8) (v := .ref (xMo 6)) (C := R_Mo) (T := F_Mo) (N := 31) hx hb hts i_Mo hown hK hP 0 rfl rfl 7 (by decide) (hts _ m_711) (fun _ h9 => h9) rfl d_Mo_point_31 ?_
      refine lv_iload hx hb d_Mo_point_34 (lv_at hl 0 rfl) ?_
      obtain ⟨hi_28, h⟩ := gb_i h
      refine va_iald hx hb hK hP 6 0 rfl rfl (inb_in hi_28) d_Mo_point_36 ?_
      obtain ⟨x_29, ex_29, h⟩ := letb_i h
      refine lv_topn ex_29 ?_
      refine lv_goto (tgt := 41) hx hb d_Mo_point_37 (by decide) ?_
      exact K41 x_29 v5_23 s0_23 H locs ls hP hD hS (lv_sub hl [1, 2, 3, 4, 5, 6, 0] rfl) h
  refine lv_if_eq (tgt := 22) hx hb d_Mo_point_10 (by decide) (fun c_30 => ?_) (fun c_30 => ?_)
  · rw [if_pos c_30] at h
    refine lv_iconst (v := 0) hx hb d_Mo_point_22 (by decide) ?_
    exact K23 0 r_1 H locs ls hP hD hS (lv_sub hl [1, 2, 3, 4, 5, 0] rfl) h
  · rw [if_neg c_30] at h
    refine lv_bipush (v := 8) hx hb d_Mo_point_13 (by decide) ?_
    refine lv_iload_n hx hb d_Mo_point_15 rfl (lv_at hl 2 rfl) ?_
    refine lv_imul hx hb d_Mo_point_16 ?_
    refine lv_iload_n hx hb d_Mo_point_17 rfl (lv_at hl 3 rfl) ?_
    refine lv_iadd hx hb d_Mo_point_18 ?_
    refine lv_goto (tgt := 23) hx hb d_Mo_point_19 (by decide) ?_
    exact K23 ((8 * p1) + p2) r_1 H locs ls hP hD hS (lv_sub hl [1, 2, 3, 4, 5, 0] rfl) h
abbrev rm_Mo_up_r : Room := { frames := 0, cells := 0, slots := 0, locals := 0 }
set_option maxRecDepth 100000 in
set_option maxHeartbeats 4000000 in
theorem c_Mo_up_r (l : Launch) (D : va_G) (cI cZ cJ : ClassId)  (sz : Nat)  (p1 : Int32) (p2 : Int32) (r : Int32) (h : f_Mo_up p1 p2 = some r) : MI l y_Mo_up b_Mo_up 3 (some .int) rm_Mo_up_r D (TYS cI cZ cJ) [.int p1, .int p2] ([] : va_W) sz r ([] : va_W) := by
  refine mi_start (own := R_Mo) (by decide +kernel) rfl (Nat.le_of_ble_eq_true rfl) (fun p e s m args below meth c A ls C0 hr hlk hP hD hS hl => ?_)
  obtain ⟨Q, hQ⟩ : ∃ Q, Q = QI below D (TYS cI cZ cJ) A ([] : va_W) r args s := ⟨_, rfl⟩
  rw [← hQ]
  obtain ⟨hx, hb, -, hown, hts, hK, hE, -⟩ := id C0
  have hl : lv_has ls 3 [(0, .int p1), (1, .int p2)] := hl
  obtain ⟨H, hH⟩ : ∃ H, H = s.heap := ⟨_, rfl⟩
  have hP : va_P D vwCl ([] : va_W) H := by rw [hH]; exact hP
  have hS : va_S A s.heap H [] := by rw [hH]; exact hS
  rw [show W p l e rm_Mo_up_r s m args below meth c s.heap = W p l e rm_Mo_up_r s m args below meth c H by rw [hH]]
  generalize ([] : List Loc) = locs at hS ⊢
  unfold f_Mo_up at h
  refine lv_iload_n hx hb d_Mo_up_0 rfl (lv_at hl 0 rfl) ?_
  refine lv_iload_n hx hb d_Mo_up_1 rfl (lv_at hl 1 rfl) ?_
  obtain ⟨hz_1, h⟩ := gb_i h
  refine lv_idiv hx hb d_Mo_up_2 (nz_i hz_1) ?_
  obtain ⟨x_2, ex_2, h⟩ := letb_i h
  refine lv_topn ex_2 ?_
  refine lv_istore_n (lv' := [(2, .int x_2), (0, .int p1), (1, .int p2)]) hx hb d_Mo_up_3 rfl hl (by decide) rfl (fun ls hl => ?_)
  refine lv_iload_n hx hb d_Mo_up_4 rfl (lv_at hl 0 rfl) ?_
  refine lv_iload_n hx hb d_Mo_up_5 rfl (lv_at hl 2 rfl) ?_
  refine lv_imul hx hb d_Mo_up_6 ?_
  refine lv_iload_n hx hb d_Mo_up_7 rfl (lv_at hl 1 rfl) ?_
  refine lv_icmp_ge (tgt := 17) hx hb d_Mo_up_8 (by decide) (fun c_3 => ?_) (fun c_3 => ?_)
  · rw [if_pos c_3] at h
    refine lv_iload_n hx hb d_Mo_up_17 rfl (lv_at hl 0 rfl) ?_
    cases h
    rw [hQ]
    exact mi_ret C0 hr rfl hlk hP hD hS d_Mo_up_18
  · rw [if_neg c_3] at h
    refine lv_iload_n hx hb d_Mo_up_11 rfl (lv_at hl 0 rfl) ?_
    refine lv_iconst (v := 1) hx hb d_Mo_up_12 (by decide) ?_
    refine lv_iadd hx hb d_Mo_up_13 ?_
    refine lv_goto (tgt := 18) hx hb d_Mo_up_14 (by decide) ?_
    cases h
    rw [hQ]
    exact mi_ret C0 hr rfl hlk hP hD hS d_Mo_up_18
