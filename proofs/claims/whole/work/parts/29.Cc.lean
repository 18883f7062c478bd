abbrev rm_Cc_object_r : Room := { frames := 2, cells := 0, slots := 0, locals := 47 }
set_option maxRecDepth 100000 in
set_option maxHeartbeats 4000000 in
theorem c_Cc_object_r (l : Launch) (D : va_G) (cI cZ cJ : ClassId) (xCc : Nat) (xGo : Nat → Nat) (xFo : Nat → Nat) (xPk : Nat → Nat) (xSk : Nat → Nat) (xAi : Nat → Nat) (xSh : Nat → Nat) (xJo : Nat → Nat) (sz : Nat) (gGo : St) (gFo : St) (gPk : St) (qPk : Int64) (gSk : St) (gAi : St) (gSh : St) (gJo : St) (p1 : Int32) (p2 : Int32) (p3 : Int32) (p4 : Int32) (r : Int32) (gGo1 : St) (h : f_Cc_object gGo gFo gPk qPk gSk gAi gSh gJo p1 p2 p3 p4 = some (.inl (r, gGo1))) : MI l y_Cc_object b_Cc_object 5 (some .int) rm_Cc_object_r D (TYS cI cZ cJ) [.ref xCc, .int p1, .int p2, .int p3, .int p4] (wCc xCc cI cZ xGo xFo xPk xSk xAi xSh xJo gGo gFo gPk qPk gSk gAi gSh gJo) sz r (wCc xCc cI cZ xGo xFo xPk xSk xAi xSh xJo gGo1 gFo gPk qPk gSk gAi gSh gJo) := by
  refine mi_start (own := R_Cc) (by decide +kernel) rfl (Nat.le_of_ble_eq_true rfl) (fun p e s m args below meth c A ls C0 hr hlk hP hD hS hl => ?_)
  obtain ⟨Q, hQ⟩ : ∃ Q, Q = QI below D (TYS cI cZ cJ) A (wCc xCc cI cZ xGo xFo xPk xSk xAi xSh xJo gGo1 gFo gPk qPk gSk gAi gSh gJo) r args s := ⟨_, rfl⟩
  rw [← hQ]
  obtain ⟨hx, hb, -, hown, hts, hK, hE, -⟩ := id C0
  have hl : lv_has ls 5 [(0, .ref xCc), (1, .int p1), (2, .int p2), (3, .int p3), (4, .int p4)] := hl
  obtain ⟨H, hH⟩ : ∃ H, H = s.heap := ⟨_, rfl⟩
  have hP : va_P D vwCl (wCc xCc cI cZ xGo xFo xPk xSk xAi xSh xJo gGo gFo gPk qPk gSk gAi gSh gJo) H := by rw [hH]; exact hP
  have hS : va_S A s.heap H [] := by rw [hH]; exact hS
  rw [show W p l e rm_Cc_object_r s m args below meth c s.heap = W p l e rm_Cc_object_r s m args below meth c H by rw [hH]]
  generalize ([] : List Loc) = locs at hS ⊢
  unfold f_Cc_object at h
  refine lv_aload_n hx hb d_Cc_object_0 rfl (lv_at hl 0 rfl) ?_
  refine va_get (ci := 7) (v := .ref (xGo 0)) (C := R_Cc) (T := F_Cc) (N := 7) hx hb hts i_Cc hown hK hP 0 rfl rfl 0 (by decide) (hts _ m_206) (fun _ h9 => h9) rfl d_Cc_object_1 ?_
  refine lv_iload_n hx hb d_Cc_object_4 rfl (lv_at hl 1 rfl) ?_
  refine lv_iload_n hx hb d_Cc_object_5 rfl (lv_at hl 2 rfl) ?_
  refine lv_iload_n hx hb d_Cc_object_6 rfl (lv_at hl 3 rfl) ?_
  refine lv_iload hx hb d_Cc_object_7 (lv_at hl 4 rfl) ?_
  obtain ⟨r_1, gGo_2, hc_3, h⟩ | ⟨E9, hc_3, h⟩ := xc2_i h
  rotate_left
  · cases h
  refine cVi (ws' := (wCc xCc cI cZ xGo xFo xPk xSk xAi xSh xJo gGo_2 gFo gPk qPk gSk gAi gSh gJo)) (As := [.int p1, .int p2, .int p3, .int p4]) (rest := []) C0 hP hD hS hl.1 [1, 2, 3, 4, 5, 6] (c_Go_add_r l D cI cZ cJ xGo H.size gGo p1 p2 p3 p4 r_1 gGo_2 hc_3) k_Go_add m_237 rfl rfl rfl rfl rfl rfl ⟨by decide, by decide⟩ ⟨rfl, rfl⟩ rfl (Nat.le_of_ble_eq_true rfl) d_Cc_object_9 ⟨Nat.zero_le _, Nat.zero_le _⟩ (fun H locs hP hD hS => ?_)
  cases h
  rw [hQ]
  exact mi_ret C0 hr rfl hlk hP hD hS d_Cc_object_12
abbrev rm_Cc_object_t : Room := { frames := 8, cells := 1, slots := 6, locals := 129 }
set_option maxRecDepth 100000 in
set_option maxHeartbeats 4000000 in
theorem c_Cc_object_t (l : Launch) (hltr : l.stackTraces = false) (D : va_G) (cI cZ cJ : ClassId) (xCc : Nat) (xGo : Nat → Nat) (xFo : Nat → Nat) (xPk : Nat → Nat) (xSk : Nat → Nat) (xAi : Nat → Nat) (xSh : Nat → Nat) (xJo : Nat → Nat) (sz : Nat) (gGo : St) (gFo : St) (gPk : St) (qPk : Int64) (gSk : St) (gAi : St) (gSh : St) (gJo : St) (p1 : Int32) (p2 : Int32) (p3 : Int32) (p4 : Int32) (E : String) (h : f_Cc_object gGo gFo gPk qPk gSk gAi gSh gJo p1 p2 p3 p4 = some (.inr E)) : MT l y_Cc_object b_Cc_object 5 (some .int) rm_Cc_object_t D (TYS cI cZ cJ) [.ref xCc, .int p1, .int p2, .int p3, .int p4] (wCc xCc cI cZ xGo xFo xPk xSk xAi xSh xJo gGo gFo gPk qPk gSk gAi gSh gJo) sz E := by
  refine mt_start (own := R_Cc) (by decide +kernel) rfl (Nat.le_of_ble_eq_true rfl) (fun p e s m args below meth c A ls C0 hAe hno hlk hP hD hS hl => ?_)
  obtain ⟨Q, hQ⟩ : ∃ Q, Q = QT below D (TYS cI cZ cJ) (wCc xCc cI cZ xGo xFo xPk xSk xAi xSh xJo gGo gFo gPk qPk gSk gAi gSh gJo) E args s := ⟨_, rfl⟩
  rw [← hQ]
  obtain ⟨hx, hb, -, hown, hts, hK, hE, -⟩ := id C0
  have hl : lv_has ls 5 [(0, .ref xCc), (1, .int p1), (2, .int p2), (3, .int p3), (4, .int p4)] := hl
  obtain ⟨H, hH⟩ : ∃ H, H = s.heap := ⟨_, rfl⟩
  have hP : va_P D vwCl (wCc xCc cI cZ xGo xFo xPk xSk xAi xSh xJo gGo gFo gPk qPk gSk gAi gSh gJo) H := by rw [hH]; exact hP
  have hS : va_S A s.heap H [] := by rw [hH]; exact hS
  rw [show W p l e rm_Cc_object_t s m args below meth c s.heap = W p l e rm_Cc_object_t s m args below meth c H by rw [hH]]
  generalize ([] : List Loc) = locs at hS ⊢
  unfold f_Cc_object at h
  refine lv_aload_n hx hb d_Cc_object_0 rfl (lv_at hl 0 rfl) ?_
  refine va_get (ci := 7) (v := .ref (xGo 0)) (C := R_Cc) (T := F_Cc) (N := 7) hx hb hts i_Cc hown hK hP 0 rfl rfl 0 (by decide) (hts _ m_206) (fun _ h9 => h9) rfl d_Cc_object_1 ?_
  refine lv_iload_n hx hb d_Cc_object_4 rfl (lv_at hl 1 rfl) ?_
  refine lv_iload_n hx hb d_Cc_object_5 rfl (lv_at hl 2 rfl) ?_
  refine lv_iload_n hx hb d_Cc_object_6 rfl (lv_at hl 3 rfl) ?_
  refine lv_iload hx hb d_Cc_object_7 (lv_at hl 4 rfl) ?_
  obtain ⟨r_1, gGo_2, hc_3, h⟩ | ⟨E9, hc_3, h⟩ := xc2_i h
  rotate_left
  · cases h
    rw [hQ]
    exact x_out C0 hAe hno hlk hP hD hS [1, 2, 3, 4, 5, 6] rfl rfl rfl (rV (As := [.int p1, .int p2, .int p3, .int p4]) (rest := []) C0 hP hD hS hl.1 [1, 2, 3, 4, 5, 6] (c_Go_add_t l hltr D cI cZ cJ xGo H.size gGo p1 p2 p3 p4 E hc_3) k_Go_add m_237 rfl rfl rfl rfl ⟨by decide, by decide⟩ ⟨rfl, rfl⟩ rfl (Nat.le_of_ble_eq_true rfl) d_Cc_object_9 ⟨by decide, by decide⟩) ⟨rfl, rfl⟩
  refine cVi (ws' := (wCc xCc cI cZ xGo xFo xPk xSk xAi xSh xJo gGo_2 gFo gPk qPk gSk gAi gSh gJo)) (As := [.int p1, .int p2, .int p3, .int p4]) (rest := []) C0 hP hD hS hl.1 [1, 2, 3, 4, 5, 6] (c_Go_add_r l D cI cZ cJ xGo H.size gGo p1 p2 p3 p4 r_1 gGo_2 hc_3) k_Go_add m_237 rfl rfl rfl rfl rfl rfl ⟨by decide, by decide⟩ ⟨rfl, rfl⟩ rfl (Nat.le_of_ble_eq_true rfl) d_Cc_object_9 ⟨Nat.zero_le _, Nat.zero_le _⟩ (fun H locs hP hD hS => ?_)
  cases h
abbrev rm_Cc_weak_r : Room := { frames := 2, cells := 0, slots := 0, locals := 46 }
set_option maxRecDepth 100000 in
set_option maxHeartbeats 4000000 in
theorem c_Cc_weak_r (l : Launch) (D : va_G) (cI cZ cJ : ClassId) (xCc : Nat) (xGo : Nat → Nat) (xFo : Nat → Nat) (xPk : Nat → Nat) (xSk : Nat → Nat) (xAi : Nat → Nat) (xSh : Nat → Nat) (xJo : Nat → Nat) (sz : Nat) (gGo : St) (gFo : St) (gPk : St) (qPk : Int64) (gSk : St) (gAi : St) (gSh : St) (gJo : St) (p1 : Int32) (p2 : Int32) (p3 : Int32) (r : Int32) (gGo1 : St) (h : f_Cc_weak gGo gFo gPk qPk gSk gAi gSh gJo p1 p2 p3 = some (.inl (r, gGo1))) : MI l y_Cc_weak b_Cc_weak 4 (some .boolean) rm_Cc_weak_r D (TYS cI cZ cJ) [.ref xCc, .int p1, .int p2, .int p3] (wCc xCc cI cZ xGo xFo xPk xSk xAi xSh xJo gGo gFo gPk qPk gSk gAi gSh gJo) sz r (wCc xCc cI cZ xGo xFo xPk xSk xAi xSh xJo gGo1 gFo gPk qPk gSk gAi gSh gJo) := by
  refine mi_start (own := R_Cc) (by decide +kernel) rfl (Nat.le_of_ble_eq_true rfl) (fun p e s m args below meth c A ls C0 hr hlk hP hD hS hl => ?_)
  obtain ⟨Q, hQ⟩ : ∃ Q, Q = QI below D (TYS cI cZ cJ) A (wCc xCc cI cZ xGo xFo xPk xSk xAi xSh xJo gGo1 gFo gPk qPk gSk gAi gSh gJo) r args s := ⟨_, rfl⟩
  rw [← hQ]
  obtain ⟨hx, hb, -, hown, hts, hK, hE, -⟩ := id C0
  have hl : lv_has ls 4 [(0, .ref xCc), (1, .int p1), (2, .int p2), (3, .int p3)] := hl
  obtain ⟨H, hH⟩ : ∃ H, H = s.heap := ⟨_, rfl⟩
  have hP : va_P D vwCl (wCc xCc cI cZ xGo xFo xPk xSk xAi xSh xJo gGo gFo gPk qPk gSk gAi gSh gJo) H := by rw [hH]; exact hP
  have hS : va_S A s.heap H [] := by rw [hH]; exact hS
  rw [show W p l e rm_Cc_weak_r s m args below meth c s.heap = W p l e rm_Cc_weak_r s m args below meth c H by rw [hH]]
  generalize ([] : List Loc) = locs at hS ⊢
  unfold f_Cc_weak at h
  refine lv_aload_n hx hb d_Cc_weak_0 rfl (lv_at hl 0 rfl) ?_
  refine va_get (ci := 7) (v := .ref (xGo 0)) (C := R_Cc) (T := F_Cc) (N := 7) hx hb hts i_Cc hown hK hP 0 rfl rfl 0 (by decide) (hts _ m_206) (fun _ h9 => h9) rfl d_Cc_weak_1 ?_
  refine lv_iload_n hx hb d_Cc_weak_4 rfl (lv_at hl 1 rfl) ?_
  refine lv_iload_n hx hb d_Cc_weak_5 rfl (lv_at hl 2 rfl) ?_
  refine lv_iload_n hx hb d_Cc_weak_6 rfl (lv_at hl 3 rfl) ?_
  obtain ⟨r_1, gGo_2, hc_3, h⟩ | ⟨E9, hc_3, h⟩ := xc2_i h
  rotate_left
  · cases h
  refine cVi (ws' := (wCc xCc cI cZ xGo xFo xPk xSk xAi xSh xJo gGo_2 gFo gPk qPk gSk gAi gSh gJo)) (As := [.int p1, .int p2, .int p3]) (rest := []) C0 hP hD hS hl.1 [1, 2, 3, 4, 5, 6] (c_Go_setWeak_r l D cI cZ cJ xGo H.size gGo p1 p2 p3 r_1 gGo_2 hc_3) k_Go_setWeak m_340 rfl rfl rfl rfl rfl rfl ⟨by decide, by decide⟩ ⟨rfl, rfl⟩ rfl (Nat.le_of_ble_eq_true rfl) d_Cc_weak_7 ⟨Nat.zero_le _, Nat.zero_le _⟩ (fun H locs hP hD hS => ?_)
  obtain ⟨hz_4, h⟩ := gb_i h
  cases h
  rw [hQ]
  exact mi_ret C0 hr (isb_n hz_4) hlk hP hD hS d_Cc_weak_10
abbrev rm_Cc_weak_t : Room := { frames := 8, cells := 1, slots := 6, locals := 128 }
set_option maxRecDepth 100000 in
set_option maxHeartbeats 4000000 in
theorem c_Cc_weak_t (l : Launch) (hltr : l.stackTraces = false) (D : va_G) (cI cZ cJ : ClassId) (xCc : Nat) (xGo : Nat → Nat) (xFo : Nat → Nat) (xPk : Nat → Nat) (xSk : Nat → Nat) (xAi : Nat → Nat) (xSh : Nat → Nat) (xJo : Nat → Nat) (sz : Nat) (gGo : St) (gFo : St) (gPk : St) (qPk : Int64) (gSk : St) (gAi : St) (gSh : St) (gJo : St) (p1 : Int32) (p2 : Int32) (p3 : Int32) (E : String) (h : f_Cc_weak gGo gFo gPk qPk gSk gAi gSh gJo p1 p2 p3 = some (.inr E)) : MT l y_Cc_weak b_Cc_weak 4 (some .boolean) rm_Cc_weak_t D (TYS cI cZ cJ) [.ref xCc, .int p1, .int p2, .int p3] (wCc xCc cI cZ xGo xFo xPk xSk xAi xSh xJo gGo gFo gPk qPk gSk gAi gSh gJo) sz E := by
  refine mt_start (own := R_Cc) (by decide +kernel) rfl (Nat.le_of_ble_eq_true rfl) (fun p e s m args below meth c A ls C0 hAe hno hlk hP hD hS hl => ?_)
  obtain ⟨Q, hQ⟩ : ∃ Q, Q = QT below D (TYS cI cZ cJ) (wCc xCc cI cZ xGo xFo xPk xSk xAi xSh xJo gGo gFo gPk qPk gSk gAi gSh gJo) E args s := ⟨_, rfl⟩
  rw [← hQ]
  obtain ⟨hx, hb, -, hown, hts, hK, hE, -⟩ := id C0
  have hl : lv_has ls 4 [(0, .ref xCc), (1, .int p1), (2, .int p2), (3, .int p3)] := hl
  obtain ⟨H, hH⟩ : ∃ H, H = s.heap := ⟨_, rfl⟩
  have hP : va_P D vwCl (wCc xCc cI cZ xGo xFo xPk xSk xAi xSh xJo gGo gFo gPk qPk gSk gAi gSh gJo) H := by rw [hH]; exact hP
  have hS : va_S A s.heap H [] := by rw [hH]; exact hS
  rw [show W p l e rm_Cc_weak_t s m args below meth c s.heap = W p l e rm_Cc_weak_t s m args below meth c H by rw [hH]]
  generalize ([] : List Loc) = locs at hS ⊢
  unfold f_Cc_weak at h
  refine lv_aload_n hx hb d_Cc_weak_0 rfl (lv_at hl 0 rfl) ?_
  refine va_get (ci := 7) (v := .ref (xGo 0)) (C := R_Cc) (T := F_Cc) (N := 7) hx hb hts i_Cc hown hK hP 0 rfl rfl 0 (by decide) (hts _ m_206) (fun _ h9 => h9) rfl d_Cc_weak_1 ?_
  refine lv_iload_n hx hb d_Cc_weak_4 rfl (lv_at hl 1 rfl) ?_
  refine lv_iload_n hx hb d_Cc_weak_5 rfl (lv_at hl 2 rfl) ?_
  refine lv_iload_n hx hb d_Cc_weak_6 rfl (lv_at hl 3 rfl) ?_
  obtain ⟨r_1, gGo_2, hc_3, h⟩ | ⟨E9, hc_3, h⟩ := xc2_i h
  rotate_left
  · cases h
    rw [hQ]
    exact x_out C0 hAe hno hlk hP hD hS [1, 2, 3, 4, 5, 6] rfl rfl rfl (rV (As := [.int p1, .int p2, .int p3]) (rest := []) C0 hP hD hS hl.1 [1, 2, 3, 4, 5, 6] (c_Go_setWeak_t l hltr D cI cZ cJ xGo H.size gGo p1 p2 p3 E hc_3) k_Go_setWeak m_340 rfl rfl rfl rfl ⟨by decide, by decide⟩ ⟨rfl, rfl⟩ rfl (Nat.le_of_ble_eq_true rfl) d_Cc_weak_7 ⟨by decide, by decide⟩) ⟨rfl, rfl⟩
  refine cVi (ws' := (wCc xCc cI cZ xGo xFo xPk xSk xAi xSh xJo gGo_2 gFo gPk qPk gSk gAi gSh gJo)) (As := [.int p1, .int p2, .int p3]) (rest := []) C0 hP hD hS hl.1 [1, 2, 3, 4, 5, 6] (c_Go_setWeak_r l D cI cZ cJ xGo H.size gGo p1 p2 p3 r_1 gGo_2 hc_3) k_Go_setWeak m_340 rfl rfl rfl rfl rfl rfl ⟨by decide, by decide⟩ ⟨rfl, rfl⟩ rfl (Nat.le_of_ble_eq_true rfl) d_Cc_weak_7 ⟨Nat.zero_le _, Nat.zero_le _⟩ (fun H locs hP hD hS => ?_)
  obtain ⟨hz_4, h⟩ := gb_i h
  cases h
abbrev rm_Cc_foam_r : Room := { frames := 2, cells := 0, slots := 0, locals := 47 }
set_option maxRecDepth 100000 in
set_option maxHeartbeats 4000000 in
theorem c_Cc_foam_r (l : Launch) (D : va_G) (cI cZ cJ : ClassId) (xCc : Nat) (xGo : Nat → Nat) (xFo : Nat → Nat) (xPk : Nat → Nat) (xSk : Nat → Nat) (xAi : Nat → Nat) (xSh : Nat → Nat) (xJo : Nat → Nat) (sz : Nat) (gGo : St) (gFo : St) (gPk : St) (qPk : Int64) (gSk : St) (gAi : St) (gSh : St) (gJo : St) (p1 : Int32) (p2 : Int32) (r : Int32) (gFo1 : St) (h : f_Cc_foam gGo gFo gPk qPk gSk gAi gSh gJo p1 p2 = some (.inl (r, gFo1))) : MI l y_Cc_foam b_Cc_foam 3 (some .int) rm_Cc_foam_r D (TYS cI cZ cJ) [.ref xCc, .int p1, .int p2] (wCc xCc cI cZ xGo xFo xPk xSk xAi xSh xJo gGo gFo gPk qPk gSk gAi gSh gJo) sz r (wCc xCc cI cZ xGo xFo xPk xSk xAi xSh xJo gGo gFo1 gPk qPk gSk gAi gSh gJo) := by
  refine mi_start (own := R_Cc) (by decide +kernel) rfl (Nat.le_of_ble_eq_true rfl) (fun p e s m args below meth c A ls C0 hr hlk hP hD hS hl => ?_)
  obtain ⟨Q, hQ⟩ : ∃ Q, Q = QI below D (TYS cI cZ cJ) A (wCc xCc cI cZ xGo xFo xPk xSk xAi xSh xJo gGo gFo1 gPk qPk gSk gAi gSh gJo) r args s := ⟨_, rfl⟩
  rw [← hQ]
  obtain ⟨hx, hb, -, hown, hts, hK, hE, -⟩ := id C0
  have hl : lv_has ls 3 [(0, .ref xCc), (1, .int p1), (2, .int p2)] := hl
  obtain ⟨H, hH⟩ : ∃ H, H = s.heap := ⟨_, rfl⟩
  have hP : va_P D vwCl (wCc xCc cI cZ xGo xFo xPk xSk xAi xSh xJo gGo gFo gPk qPk gSk gAi gSh gJo) H := by rw [hH]; exact hP
  have hS : va_S A s.heap H [] := by rw [hH]; exact hS
  rw [show W p l e rm_Cc_foam_r s m args below meth c s.heap = W p l e rm_Cc_foam_r s m args below meth c H by rw [hH]]
  generalize ([] : List Loc) = locs at hS ⊢
  unfold f_Cc_foam at h
  refine lv_aload_n hx hb d_Cc_foam_0 rfl (lv_at hl 0 rfl) ?_
  refine va_get (ci := 7) (v := .ref (xFo 0)) (C := R_Cc) (T := F_Cc) (N := 7) hx hb hts i_Cc hown hK hP 0 rfl rfl 1 (by decide) (hts _ m_207) (fun _ h9 => h9) rfl d_Cc_foam_1 ?_
  refine lv_iload_n hx hb d_Cc_foam_4 rfl (lv_at hl 1 rfl) ?_
  refine lv_iload_n hx hb d_Cc_foam_5 rfl (lv_at hl 2 rfl) ?_
  obtain ⟨r_1, gFo_2, hc_3, h⟩ | ⟨E9, hc_3, h⟩ := xc2_i h
  rotate_left
  · cases h
  refine cVi (ws' := (wCc xCc cI cZ xGo xFo xPk xSk xAi xSh xJo gGo gFo_2 gPk qPk gSk gAi gSh gJo)) (As := [.int p1, .int p2]) (rest := []) C0 hP hD hS hl.1 [7, 8, 9, 10, 11, 12] (c_Fo_addRow_r l D cI cZ cJ xFo H.size gFo p1 p2 r_1 gFo_2 hc_3) k_Fo_addRow m_370 rfl rfl rfl rfl rfl rfl ⟨by decide, by decide⟩ ⟨rfl, rfl⟩ rfl (Nat.le_of_ble_eq_true rfl) d_Cc_foam_6 ⟨Nat.zero_le _, Nat.zero_le _⟩ (fun H locs hP hD hS => ?_)
  cases h
  rw [hQ]
  exact mi_ret C0 hr rfl hlk hP hD hS d_Cc_foam_9
abbrev rm_Cc_foam_t : Room := { frames := 8, cells := 1, slots := 6, locals := 129 }
set_option maxRecDepth 100000 in
set_option maxHeartbeats 4000000 in
theorem c_Cc_foam_t (l : Launch) (hltr : l.stackTraces = false) (D : va_G) (cI cZ cJ : ClassId) (xCc : Nat) (xGo : Nat → Nat) (xFo : Nat → Nat) (xPk : Nat → Nat) (xSk : Nat → Nat) (xAi : Nat → Nat) (xSh : Nat → Nat) (xJo : Nat → Nat) (sz : Nat) (gGo : St) (gFo : St) (gPk : St) (qPk : Int64) (gSk : St) (gAi : St) (gSh : St) (gJo : St) (p1 : Int32) (p2 : Int32) (E : String) (h : f_Cc_foam gGo gFo gPk qPk gSk gAi gSh gJo p1 p2 = some (.inr E)) : MT l y_Cc_foam b_Cc_foam 3 (some .int) rm_Cc_foam_t D (TYS cI cZ cJ) [.ref xCc, .int p1, .int p2] (wCc xCc cI cZ xGo xFo xPk xSk xAi xSh xJo gGo gFo gPk qPk gSk gAi gSh gJo) sz E := by
  refine mt_start (own := R_Cc) (by decide +kernel) rfl (Nat.le_of_ble_eq_true rfl) (fun p e s m args below meth c A ls C0 hAe hno hlk hP hD hS hl => ?_)
  obtain ⟨Q, hQ⟩ : ∃ Q, Q = QT below D (TYS cI cZ cJ) (wCc xCc cI cZ xGo xFo xPk xSk xAi xSh xJo gGo gFo gPk qPk gSk gAi gSh gJo) E args s := ⟨_, rfl⟩
  rw [← hQ]
  obtain ⟨hx, hb, -, hown, hts, hK, hE, -⟩ := id C0
  have hl : lv_has ls 3 [(0, .ref xCc), (1, .int p1), (2, .int p2)] := hl
  obtain ⟨H, hH⟩ : ∃ H, H = s.heap := ⟨_, rfl⟩
  have hP : va_P D vwCl (wCc xCc cI cZ xGo xFo xPk xSk xAi xSh xJo gGo gFo gPk qPk gSk gAi gSh gJo) H := by rw [hH]; exact hP
  have hS : va_S A s.heap H [] := by rw [hH]; exact hS
  rw [show W p l e rm_Cc_foam_t s m args below meth c s.heap = W p l e rm_Cc_foam_t s m args below meth c H by rw [hH]]
  generalize ([] : List Loc) = locs at hS ⊢
  unfold f_Cc_foam at h
  refine lv_aload_n hx hb d_Cc_foam_0 rfl (lv_at hl 0 rfl) ?_
  refine va_get (ci := 7) (v := .ref (xFo 0)) (C := R_Cc) (T := F_Cc) (N := 7) hx hb hts i_Cc hown hK hP 0 rfl rfl 1 (by decide) (hts _ m_207) (fun _ h9 => h9) rfl d_Cc_foam_1 ?_
  refine lv_iload_n hx hb d_Cc_foam_4 rfl (lv_at hl 1 rfl) ?_
  refine lv_iload_n hx hb d_Cc_foam_5 rfl (lv_at hl 2 rfl) ?_
  obtain ⟨r_1, gFo_2, hc_3, h⟩ | ⟨E9, hc_3, h⟩ := xc2_i h
  rotate_left
  · cases h
    rw [hQ]
    exact x_out C0 hAe hno hlk hP hD hS [7, 8, 9, 10, 11, 12] rfl rfl rfl (rV (As := [.int p1, .int p2]) (rest := []) C0 hP hD hS hl.1 [7, 8, 9, 10, 11, 12] (c_Fo_addRow_t l hltr D cI cZ cJ xFo H.size gFo p1 p2 E hc_3) k_Fo_addRow m_370 rfl rfl rfl rfl ⟨by decide, by decide⟩ ⟨rfl, rfl⟩ rfl (Nat.le_of_ble_eq_true rfl) d_Cc_foam_6 ⟨by decide, by decide⟩) ⟨rfl, rfl⟩
  refine cVi (ws' := (wCc xCc cI cZ xGo xFo xPk xSk xAi xSh xJo gGo gFo_2 gPk qPk gSk gAi gSh gJo)) (As := [.int p1, .int p2]) (rest := []) C0 hP hD hS hl.1 [7, 8, 9, 10, 11, 12] (c_Fo_addRow_r l D cI cZ cJ xFo H.size gFo p1 p2 r_1 gFo_2 hc_3) k_Fo_addRow m_370 rfl rfl rfl rfl rfl rfl ⟨by decide, by decide⟩ ⟨rfl, rfl⟩ rfl (Nat.le_of_ble_eq_true rfl) d_Cc_foam_6 ⟨Nat.zero_le _, Nat.zero_le _⟩ (fun H locs hP hD hS => ?_)
  cases h
abbrev rm_Cc_point_r : Room := { frames := 3, cells := 0, slots := 0, locals := 71 }
set_option maxRecDepth 100000 in
set_option maxHeartbeats 4000000 in
theorem c_Cc_point_r (l : Launch) (D : va_G) (cI cZ cJ : ClassId) (xCc : Nat) (xGo : Nat → Nat) (xFo : Nat → Nat) (xPk : Nat → Nat) (xSk : Nat → Nat) (xAi : Nat → Nat) (xSh : Nat → Nat) (xJo : Nat → Nat) (sz : Nat) (gGo : St) (gFo : St) (gPk : St) (qPk : Int64) (gSk : St) (gAi : St) (gSh : St) (gJo : St) (p1 : Int32) (p2 : Int32) (p3 : Int32) (p4 : Int32) (r : Int32) (gFo1 : St) (h : f_Cc_point gGo gFo gPk qPk gSk gAi gSh gJo p1 p2 p3 p4 = some (.inl (r, gFo1))) : MI l y_Cc_point b_Cc_point 5 (some .int) rm_Cc_point_r D (TYS cI cZ cJ) [.ref xCc, .int p1, .int p2, .int p3, .int p4] (wCc xCc cI cZ xGo xFo xPk xSk xAi xSh xJo gGo gFo gPk qPk gSk gAi gSh gJo) sz r (wCc xCc cI cZ xGo xFo xPk xSk xAi xSh xJo gGo gFo1 gPk qPk gSk gAi gSh gJo) := by
  refine mi_start (own := R_Cc) (by decide +kernel) rfl (Nat.le_of_ble_eq_true rfl) (fun p e s m args below meth c A ls C0 hr hlk hP hD hS hl => ?_)
  obtain ⟨Q, hQ⟩ : ∃ Q, Q = QI below D (TYS cI cZ cJ) A (wCc xCc cI cZ xGo xFo xPk xSk xAi xSh xJo gGo gFo1 gPk qPk gSk gAi gSh gJo) r args s := ⟨_, rfl⟩
  rw [← hQ]
  obtain ⟨hx, hb, -, hown, hts, hK, hE, -⟩ := id C0
  have hl : lv_has ls 5 [(0, .ref xCc), (1, .int p1), (2, .int p2), (3, .int p3), (4, .int p4)] := hl
  obtain ⟨H, hH⟩ : ∃ H, H = s.heap := ⟨_, rfl⟩
  have hP : va_P D vwCl (wCc xCc cI cZ xGo xFo xPk xSk xAi xSh xJo gGo gFo gPk qPk gSk gAi gSh gJo) H := by rw [hH]; exact hP
  have hS : va_S A s.heap H [] := by rw [hH]; exact hS
  rw [show W p l e rm_Cc_point_r s m args below meth c s.heap = W p l e rm_Cc_point_r s m args below meth c H by rw [hH]]
  generalize ([] : List Loc) = locs at hS ⊢
  unfold f_Cc_point at h
  refine lv_aload_n hx hb d_Cc_point_0 rfl (lv_at hl 0 rfl) ?_
  refine va_get (ci := 7) (v := .ref (xFo 0)) (C := R_Cc) (T := F_Cc) (N := 7) hx hb hts i_Cc hown hK hP 0 rfl rfl 1 (by decide) (hts _ m_207) (fun _ h9 => h9) rfl d_Cc_point_1 ?_
  refine lv_iload_n hx hb d_Cc_point_4 rfl (lv_at hl 1 rfl) ?_
  refine lv_iload_n hx hb d_Cc_point_5 rfl (lv_at hl 2 rfl) ?_
  refine lv_iload_n hx hb d_Cc_point_6 rfl (lv_at hl 3 rfl) ?_
  refine lv_iload hx hb d_Cc_point_7 (lv_at hl 4 rfl) ?_
  obtain ⟨r_1, gFo_2, hc_3, h⟩ | ⟨E9, hc_3, h⟩ := xc2_i h
  rotate_left
  · cases h
  refine cVi (ws' := (wCc xCc cI cZ xGo xFo xPk xSk xAi xSh xJo gGo gFo_2 gPk qPk gSk gAi gSh gJo)) (As := [.int p1, .int p2, .int p3, .int p4]) (rest := []) C0 hP hD hS hl.1 [7, 8, 9, 10, 11, 12] (c_Fo_addPoint_r l D cI cZ cJ xFo H.size gFo p1 p2 p3 p4 r_1 gFo_2 hc_3) k_Fo_addPoint m_384 rfl rfl rfl rfl rfl rfl ⟨by decide, by decide⟩ ⟨rfl, rfl⟩ rfl (Nat.le_of_ble_eq_true rfl) d_Cc_point_9 ⟨Nat.zero_le _, Nat.zero_le _⟩ (fun H locs hP hD hS => ?_)
  cases h
  rw [hQ]
  exact mi_ret C0 hr rfl hlk hP hD hS d_Cc_point_12
abbrev rm_Cc_point_t : Room := { frames := 9, cells := 1, slots := 6, locals := 153 }
set_option maxRecDepth 100000 in
set_option maxHeartbeats 4000000 in
theorem c_Cc_point_t (l : Launch) (hltr : l.stackTraces = false) (D : va_G) (cI cZ cJ : ClassId) (xCc : Nat) (xGo : Nat → Nat) (xFo : Nat → Nat) (xPk : Nat → Nat) (xSk : Nat → Nat) (xAi : Nat → Nat) (xSh : Nat → Nat) (xJo : Nat → Nat) (sz : Nat) (gGo : St) (gFo : St) (gPk : St) (qPk : Int64) (gSk : St) (gAi : St) (gSh : St) (gJo : St) (p1 : Int32) (p2 : Int32) (p3 : Int32) (p4 : Int32) (E : String) (h : f_Cc_point gGo gFo gPk qPk gSk gAi gSh gJo p1 p2 p3 p4 = some (.inr E)) : MT l y_Cc_point b_Cc_point 5 (some .int) rm_Cc_point_t D (TYS cI cZ cJ) [.ref xCc, .int p1, .int p2, .int p3, .int p4] (wCc xCc cI cZ xGo xFo xPk xSk xAi xSh xJo gGo gFo gPk qPk gSk gAi gSh gJo) sz E := by
  refine mt_start (own := R_Cc) (by decide +kernel) rfl (Nat.le_of_ble_eq_true rfl) (fun p e s m args below meth c A ls C0 hAe hno hlk hP hD hS hl => ?_)
  obtain ⟨Q, hQ⟩ : ∃ Q, Q = QT below D (TYS cI cZ cJ) (wCc xCc cI cZ xGo xFo xPk xSk xAi xSh xJo gGo gFo gPk qPk gSk gAi gSh gJo) E args s := ⟨_, rfl⟩
  rw [← hQ]
  obtain ⟨hx, hb, -, hown, hts, hK, hE, -⟩ := id C0
  have hl : lv_has ls 5 [(0, .ref xCc), (1, .int p1), (2, .int p2), (3, .int p3), (4, .int p4)] := hl
  obtain ⟨H, hH⟩ : ∃ H, H = s.heap := ⟨_, rfl⟩
  have hP : va_P D vwCl (wCc xCc cI cZ xGo xFo xPk xSk xAi xSh xJo gGo gFo gPk qPk gSk gAi gSh gJo) H := by rw [hH]; exact hP
  have hS : va_S A s.heap H [] := by rw [hH]; exact hS
  rw [show W p l e rm_Cc_point_t s m args below meth c s.heap = W p l e rm_Cc_point_t s m args below meth c H by rw [hH]]
  generalize ([] : List Loc) = locs at hS ⊢
  unfold f_Cc_point at h
  refine lv_aload_n hx hb d_Cc_point_0 rfl (lv_at hl 0 rfl) ?_
  refine va_get (ci := 7) (v := .ref (xFo 0)) (C := R_Cc) (T := F_Cc) (N := 7) hx hb hts i_Cc hown hK hP 0 rfl rfl 1 (by decide) (hts _ m_207) (fun _ h9 => h9) rfl d_Cc_point_1 ?_
  refine lv_iload_n hx hb d_Cc_point_4 rfl (lv_at hl 1 rfl) ?_
  refine lv_iload_n hx hb d_Cc_point_5 rfl (lv_at hl 2 rfl) ?_
  refine lv_iload_n hx hb d_Cc_point_6 rfl (lv_at hl 3 rfl) ?_
  refine lv_iload hx hb d_Cc_point_7 (lv_at hl 4 rfl) ?_
  obtain ⟨r_1, gFo_2, hc_3, h⟩ | ⟨E9, hc_3, h⟩ := xc2_i h
  rotate_left
  · cases h
    rw [hQ]
    exact x_out C0 hAe hno hlk hP hD hS [7, 8, 9, 10, 11, 12] rfl rfl rfl (rV (As := [.int p1, .int p2, .int p3, .int p4]) (rest := []) C0 hP hD hS hl.1 [7, 8, 9, 10, 11, 12] (c_Fo_addPoint_t l hltr D cI cZ cJ xFo H.size gFo p1 p2 p3 p4 E hc_3) k_Fo_addPoint m_384 rfl rfl rfl rfl ⟨by decide, by decide⟩ ⟨rfl, rfl⟩ rfl (Nat.le_of_ble_eq_true rfl) d_Cc_point_9 ⟨by decide, by decide⟩) ⟨rfl, rfl⟩
  refine cVi (ws' := (wCc xCc cI cZ xGo xFo xPk xSk xAi xSh xJo gGo gFo_2 gPk qPk gSk gAi gSh gJo)) (As := [.int p1, .int p2, .int p3, .int p4]) (rest := []) C0 hP hD hS hl.1 [7, 8, 9, 10, 11, 12] (c_Fo_addPoint_r l D cI cZ cJ xFo H.size gFo p1 p2 p3 p4 r_1 gFo_2 hc_3) k_Fo_addPoint m_384 rfl rfl rfl rfl rfl rfl ⟨by decide, by decide⟩ ⟨rfl, rfl⟩ rfl (Nat.le_of_ble_eq_true rfl) d_Cc_point_9 ⟨Nat.zero_le _, Nat.zero_le _⟩ (fun H locs hP hD hS => ?_)
  cases h
abbrev rm_Cc_value_r : Room := { frames := 3, cells := 0, slots := 0, locals := 74 }
set_option maxRecDepth 100000 in
set_option maxHeartbeats 4000000 in
theorem c_Cc_value_r (l : Launch) (D : va_G) (cI cZ cJ : ClassId) (xCc : Nat) (xGo : Nat → Nat) (xFo : Nat → Nat) (xPk : Nat → Nat) (xSk : Nat → Nat) (xAi : Nat → Nat) (xSh : Nat → Nat) (xJo : Nat → Nat) (sz : Nat) (gGo : St) (gFo : St) (gPk : St) (qPk : Int64) (gSk : St) (gAi : St) (gSh : St) (gJo : St) (p1 : Int32) (p2 : Int32) (p3 : Int32) (r : Int32) (h : f_Cc_value gGo gFo gPk qPk gSk gAi gSh gJo p1 p2 p3 = some (.inl r)) : MI l y_Cc_value b_Cc_value 4 (some .int) rm_Cc_value_r D (TYS cI cZ cJ) [.ref xCc, .int p1, .int p2, .int p3] (wCc xCc cI cZ xGo xFo xPk xSk xAi xSh xJo gGo gFo gPk qPk gSk gAi gSh gJo) sz r (wCc xCc cI cZ xGo xFo xPk xSk xAi xSh xJo gGo gFo gPk qPk gSk gAi gSh gJo) := by
  refine mi_start (own := R_Cc) (by decide +kernel) rfl (Nat.le_of_ble_eq_true rfl) (fun p e s m args below meth c A ls C0 hr hlk hP hD hS hl => ?_)
  obtain ⟨Q, hQ⟩ : ∃ Q, Q = QI below D (TYS cI cZ cJ) A (wCc xCc cI cZ xGo xFo xPk xSk xAi xSh xJo gGo gFo gPk qPk gSk gAi gSh gJo) r args s := ⟨_, rfl⟩
  rw [← hQ]
  obtain ⟨hx, hb, -, hown, hts, hK, hE, -⟩ := id C0
  have hl : lv_has ls 4 [(0, .ref xCc), (1, .int p1), (2, .int p2), (3, .int p3)] := hl
  obtain ⟨H, hH⟩ : ∃ H, H = s.heap := ⟨_, rfl⟩
  have hP : va_P D vwCl (wCc xCc cI cZ xGo xFo xPk xSk xAi xSh xJo gGo gFo gPk qPk gSk gAi gSh gJo) H := by rw [hH]; exact hP
  have hS : va_S A s.heap H [] := by rw [hH]; exact hS
  rw [show W p l e rm_Cc_value_r s m args below meth c s.heap = W p l e rm_Cc_value_r s m args below meth c H by rw [hH]]
  generalize ([] : List Loc) = locs at hS ⊢
  unfold f_Cc_value at h
  refine lv_aload_n hx hb d_Cc_value_0 rfl (lv_at hl 0 rfl) ?_
  refine va_get (ci := 7) (v := .ref (xFo 0)) (C := R_Cc) (T := F_Cc) (N := 7) hx hb hts i_Cc hown hK hP 0 rfl rfl 1 (by decide) (hts _ m_207) (fun _ h9 => h9) rfl d_Cc_value_1 ?_
  refine lv_iload_n hx hb d_Cc_value_4 rfl (lv_at hl 1 rfl) ?_
  refine lv_iload_n hx hb d_Cc_value_5 rfl (lv_at hl 2 rfl) ?_
  refine lv_iload_n hx hb d_Cc_value_6 rfl (lv_at hl 3 rfl) ?_
  obtain ⟨r_1, hc_2, h⟩ | ⟨E9, hc_2, h⟩ := xc1_i h
  rotate_left
  · cases h
  refine cVi (ws' := (wCc xCc cI cZ xGo xFo xPk xSk xAi xSh xJo gGo gFo gPk qPk gSk gAi gSh gJo)) (As := [.int p1, .int p2, .int p3]) (rest := []) C0 hP hD hS hl.1 [7, 8, 9, 10, 11, 12] (c_Fo_valueAt_r l D cI cZ cJ xFo H.size gFo p1 p2 p3 r_1 hc_2) k_Fo_valueAt m_399 rfl rfl rfl rfl rfl (rp_same rfl) ⟨by decide, by decide⟩ ⟨rfl, rfl⟩ rfl (Nat.le_of_ble_eq_true rfl) d_Cc_value_7 ⟨Nat.zero_le _, Nat.zero_le _⟩ (fun H locs hP hD hS => ?_)
  cases h
  rw [hQ]
  exact mi_ret C0 hr rfl hlk hP hD hS d_Cc_value_10
abbrev rm_Cc_value_t : Room := { frames := 9, cells := 1, slots := 6, locals := 152 }
set_option maxRecDepth 100000 in
set_option maxHeartbeats 4000000 in
theorem c_Cc_value_t (l : Launch) (hltr : l.stackTraces = false) (D : va_G) (cI cZ cJ : ClassId) (xCc : Nat) (xGo : Nat → Nat) (xFo : Nat → Nat) (xPk : Nat → Nat) (xSk : Nat → Nat) (xAi : Nat → Nat) (xSh : Nat → Nat) (xJo : Nat → Nat) (sz : Nat) (gGo : St) (gFo : St) (gPk : St) (qPk : Int64) (gSk : St) (gAi : St) (gSh : St) (gJo : St) (p1 : Int32) (p2 : Int32) (p3 : Int32) (E : String) (h : f_Cc_value gGo gFo gPk qPk gSk gAi gSh gJo p1 p2 p3 = some (.inr E)) : MT l y_Cc_value b_Cc_value 4 (some .int) rm_Cc_value_t D (TYS cI cZ cJ) [.ref xCc, .int p1, .int p2, .int p3] (wCc xCc cI cZ xGo xFo xPk xSk xAi xSh xJo gGo gFo gPk qPk gSk gAi gSh gJo) sz E := by
  refine mt_start (own := R_Cc) (by decide +kernel) rfl (Nat.le_of_ble_eq_true rfl) (fun p e s m args below meth c A ls C0 hAe hno hlk hP hD hS hl => ?_)
  obtain ⟨Q, hQ⟩ : ∃ Q, Q = QT below D (TYS cI cZ cJ) (wCc xCc cI cZ xGo xFo xPk xSk xAi xSh xJo gGo gFo gPk qPk gSk gAi gSh gJo) E args s := ⟨_, rfl⟩
  rw [← hQ]
  obtain ⟨hx, hb, -, hown, hts, hK, hE, -⟩ := id C0
  have hl : lv_has ls 4 [(0, .ref xCc), (1, .int p1), (2, .int p2), (3, .int p3)] := hl
  obtain ⟨H, hH⟩ : ∃ H, H = s.heap := ⟨_, rfl⟩
  have hP : va_P D vwCl (wCc xCc cI cZ xGo xFo xPk xSk xAi xSh xJo gGo gFo gPk qPk gSk gAi gSh gJo) H := by rw [hH]; exact hP
  have hS : va_S A s.heap H [] := by rw [hH]; exact hS
  rw [show W p l e rm_Cc_value_t s m args below meth c s.heap = W p l e rm_Cc_value_t s m args below meth c H by rw [hH]]
  generalize ([] : List Loc) = locs at hS ⊢
  unfold f_Cc_value at h
  refine lv_aload_n hx hb d_Cc_value_0 rfl (lv_at hl 0 rfl) ?_
  refine va_get (ci := 7) (v := .ref (xFo 0)) (C := R_Cc) (T := F_Cc) (N := 7) hx hb hts i_Cc hown hK hP 0 rfl rfl 1 (by decide) (hts _ m_207) (fun _ h9 => h9) rfl d_Cc_value_1 ?_
  refine lv_iload_n hx hb d_Cc_value_4 rfl (lv_at hl 1 rfl) ?_
  refine lv_iload_n hx hb d_Cc_value_5 rfl (lv_at hl 2 rfl) ?_
  refine lv_iload_n hx hb d_Cc_value_6 rfl (lv_at hl 3 rfl) ?_
  obtain ⟨r_1, hc_2, h⟩ | ⟨E9, hc_2, h⟩ := xc1_i h
  rotate_left
  · cases h
    rw [hQ]
    exact x_out C0 hAe hno hlk hP hD hS [7, 8, 9, 10, 11, 12] rfl rfl rfl (rV (As := [.int p1, .int p2, .int p3]) (rest := []) C0 hP hD hS hl.1 [7, 8, 9, 10, 11, 12] (c_Fo_valueAt_t l hltr D cI cZ cJ xFo H.size gFo p1 p2 p3 E hc_2) k_Fo_valueAt m_399 rfl rfl rfl rfl ⟨by decide, by decide⟩ ⟨rfl, rfl⟩ rfl (Nat.le_of_ble_eq_true rfl) d_Cc_value_7 ⟨by decide, by decide⟩) ⟨rfl, rfl⟩
  refine cVi (ws' := (wCc xCc cI cZ xGo xFo xPk xSk xAi xSh xJo gGo gFo gPk qPk gSk gAi gSh gJo)) (As := [.int p1, .int p2, .int p3]) (rest := []) C0 hP hD hS hl.1 [7, 8, 9, 10, 11, 12] (c_Fo_valueAt_r l D cI cZ cJ xFo H.size gFo p1 p2 p3 r_1 hc_2) k_Fo_valueAt m_399 rfl rfl rfl rfl rfl (rp_same rfl) ⟨by decide, by decide⟩ ⟨rfl, rfl⟩ rfl (Nat.le_of_ble_eq_true rfl) d_Cc_value_7 ⟨Nat.zero_le _, Nat.zero_le _⟩ (fun H locs hP hD hS => ?_)
  cases h
abbrev rm_Cc_thickness_r : Room := { frames := 4, cells := 0, slots := 0, locals := 102 }
set_option maxRecDepth 100000 in
set_option maxHeartbeats 4000000 in
theorem c_Cc_thickness_r (l : Launch) (D : va_G) (cI cZ cJ : ClassId) (xCc : Nat) (xGo : Nat → Nat) (xFo : Nat → Nat) (xPk : Nat → Nat) (xSk : Nat → Nat) (xAi : Nat → Nat) (xSh : Nat → Nat) (xJo : Nat → Nat) (sz : Nat) (gGo : St) (gFo : St) (gPk : St) (qPk : Int64) (gSk : St) (gAi : St) (gSh : St) (gJo : St) (p1 : Int32) (p2 : Int32) (p3 : Int32) (r : Int32) (h : f_Cc_thickness gGo gFo gPk qPk gSk gAi gSh gJo p1 p2 p3 = some (.inl r)) : MI l y_Cc_thickness b_Cc_thickness 4 (some .int) rm_Cc_thickness_r D (TYS cI cZ cJ) [.ref xCc, .int p1, .int p2, .int p3] (wCc xCc cI cZ xGo xFo xPk xSk xAi xSh xJo gGo gFo gPk qPk gSk gAi gSh gJo) sz r (wCc xCc cI cZ xGo xFo xPk xSk xAi xSh xJo gGo gFo gPk qPk gSk gAi gSh gJo) := by
  refine mi_start (own := R_Cc) (by decide +kernel) rfl (Nat.le_of_ble_eq_true rfl) (fun p e s m args below meth c A ls C0 hr hlk hP hD hS hl => ?_)
  obtain ⟨Q, hQ⟩ : ∃ Q, Q = QI below D (TYS cI cZ cJ) A (wCc xCc cI cZ xGo xFo xPk xSk xAi xSh xJo gGo gFo gPk qPk gSk gAi gSh gJo) r args s := ⟨_, rfl⟩
  rw [← hQ]
  obtain ⟨hx, hb, -, hown, hts, hK, hE, -⟩ := id C0
  have hl : lv_has ls 4 [(0, .ref xCc), (1, .int p1), (2, .int p2), (3, .int p3)] := hl
  obtain ⟨H, hH⟩ : ∃ H, H = s.heap := ⟨_, rfl⟩
  have hP : va_P D vwCl (wCc xCc cI cZ xGo xFo xPk xSk xAi xSh xJo gGo gFo gPk qPk gSk gAi gSh gJo) H := by rw [hH]; exact hP
  have hS : va_S A s.heap H [] := by rw [hH]; exact hS
  rw [show W p l e rm_Cc_thickness_r s m args below meth c s.heap = W p l e rm_Cc_thickness_r s m args below meth c H by rw [hH]]
  generalize ([] : List Loc) = locs at hS ⊢
  unfold f_Cc_thickness at h
  refine lv_aload_n hx hb d_Cc_thickness_0 rfl (lv_at hl 0 rfl) ?_
  refine va_get (ci := 7) (v := .ref (xFo 0)) (C := R_Cc) (T := F_Cc) (N := 7) hx hb hts i_Cc hown hK hP 0 rfl rfl 1 (by decide) (hts _ m_207) (fun _ h9 => h9) rfl d_Cc_thickness_1 ?_
  refine lv_iload_n hx hb d_Cc_thickness_4 rfl (lv_at hl 1 rfl) ?_
  refine lv_iload_n hx hb d_Cc_thickness_5 rfl (lv_at hl 2 rfl) ?_
  refine lv_iload_n hx hb d_Cc_thickness_6 rfl (lv_at hl 3 rfl) ?_
  obtain ⟨r_1, hc_2, h⟩ | ⟨E9, hc_2, h⟩ := xc1_i h
  rotate_left
  · cases h
  refine cVi (ws' := (wCc xCc cI cZ xGo xFo xPk xSk xAi xSh xJo gGo gFo gPk qPk gSk gAi gSh gJo)) (As := [.int p1, .int p2, .int p3]) (rest := []) C0 hP hD hS hl.1 [7, 8, 9, 10, 11, 12] (c_Fo_leastThickness_r l D cI cZ cJ xFo H.size gFo p1 p2 p3 r_1 hc_2) k_Fo_leastThickness m_417 rfl rfl rfl rfl rfl (rp_same rfl) ⟨by decide, by decide⟩ ⟨rfl, rfl⟩ rfl (Nat.le_of_ble_eq_true rfl) d_Cc_thickness_7 ⟨Nat.zero_le _, Nat.zero_le _⟩ (fun H locs hP hD hS => ?_)
  cases h
  rw [hQ]
  exact mi_ret C0 hr rfl hlk hP hD hS d_Cc_thickness_10
abbrev rm_Cc_thickness_t : Room := { frames := 10, cells := 1, slots := 6, locals := 180 }
set_option maxRecDepth 100000 in
set_option maxHeartbeats 4000000 in
theorem c_Cc_thickness_t (l : Launch) (hltr : l.stackTraces = false) (D : va_G) (cI cZ cJ : ClassId) (xCc : Nat) (xGo : Nat → Nat) (xFo : Nat → Nat) (xPk : Nat → Nat) (xSk : Nat → Nat) (xAi : Nat → Nat) (xSh : Nat → Nat) (xJo : Nat → Nat) (sz : Nat) (gGo : St) (gFo : St) (gPk : St) (qPk : Int64) (gSk : St) (gAi : St) (gSh : St) (gJo : St) (p1 : Int32) (p2 : Int32) (p3 : Int32) (E : String) (h : f_Cc_thickness gGo gFo gPk qPk gSk gAi gSh gJo p1 p2 p3 = some (.inr E)) : MT l y_Cc_thickness b_Cc_thickness 4 (some .int) rm_Cc_thickness_t D (TYS cI cZ cJ) [.ref xCc, .int p1, .int p2, .int p3] (wCc xCc cI cZ xGo xFo xPk xSk xAi xSh xJo gGo gFo gPk qPk gSk gAi gSh gJo) sz E := by
  refine mt_start (own := R_Cc) (by decide +kernel) rfl (Nat.le_of_ble_eq_true rfl) (fun p e s m args below meth c A ls C0 hAe hno hlk hP hD hS hl => ?_)
  obtain ⟨Q, hQ⟩ : ∃ Q, Q = QT below D (TYS cI cZ cJ) (wCc xCc cI cZ xGo xFo xPk xSk xAi xSh xJo gGo gFo gPk qPk gSk gAi gSh gJo) E args s := ⟨_, rfl⟩
  rw [← hQ]
  obtain ⟨hx, hb, -, hown, hts, hK, hE, -⟩ := id C0
  have hl : lv_has ls 4 [(0, .ref xCc), (1, .int p1), (2, .int p2), (3, .int p3)] := hl
  obtain ⟨H, hH⟩ : ∃ H, H = s.heap := ⟨_, rfl⟩
  have hP : va_P D vwCl (wCc xCc cI cZ xGo xFo xPk xSk xAi xSh xJo gGo gFo gPk qPk gSk gAi gSh gJo) H := by rw [hH]; exact hP
  have hS : va_S A s.heap H [] := by rw [hH]; exact hS
  rw [show W p l e rm_Cc_thickness_t s m args below meth c s.heap = W p l e rm_Cc_thickness_t s m args below meth c H by rw [hH]]
  generalize ([] : List Loc) = locs at hS ⊢
  unfold f_Cc_thickness at h
  refine lv_aload_n hx hb d_Cc_thickness_0 rfl (lv_at hl 0 rfl) ?_
  refine va_get (ci := 7) (v := .ref (xFo 0)) (C := R_Cc) (T := F_Cc) (N := 7) hx hb hts i_Cc hown hK hP 0 rfl rfl 1 (by decide) (hts _ m_207) (fun _ h9 => h9) rfl d_Cc_thickness_1 ?_
  refine lv_iload_n hx hb d_Cc_thickness_4 rfl (lv_at hl 1 rfl) ?_
  refine lv_iload_n hx hb d_Cc_thickness_5 rfl (lv_at hl 2 rfl) ?_
  refine lv_iload_n hx hb d_Cc_thickness_6 rfl (lv_at hl 3 rfl) ?_
  obtain ⟨r_1, hc_2, h⟩ | ⟨E9, hc_2, h⟩ := xc1_i h
  rotate_left
  · cases h
    rw [hQ]
    exact x_out C0 hAe hno hlk hP hD hS [7, 8, 9, 10, 11, 12] rfl rfl rfl (rV (As := [.int p1, .int p2, .int p3]) (rest := []) C0 hP hD hS hl.1 [7, 8, 9, 10, 11, 12] (c_Fo_leastThickness_t l hltr D cI cZ cJ xFo H.size gFo p1 p2 p3 E hc_2) k_Fo_leastThickness m_417 rfl rfl rfl rfl ⟨by decide, by decide⟩ ⟨rfl, rfl⟩ rfl (Nat.le_of_ble_eq_true rfl) d_Cc_thickness_7 ⟨by decide, by decide⟩) ⟨rfl, rfl⟩
  refine cVi (ws' := (wCc xCc cI cZ xGo xFo xPk xSk xAi xSh xJo gGo gFo gPk qPk gSk gAi gSh gJo)) (As := [.int p1, .int p2, .int p3]) (rest := []) C0 hP hD hS hl.1 [7, 8, 9, 10, 11, 12] (c_Fo_leastThickness_r l D cI cZ cJ xFo H.size gFo p1 p2 p3 r_1 hc_2) k_Fo_leastThickness m_417 rfl rfl rfl rfl rfl (rp_same rfl) ⟨by decide, by decide⟩ ⟨rfl, rfl⟩ rfl (Nat.le_of_ble_eq_true rfl) d_Cc_thickness_7 ⟨Nat.zero_le _, Nat.zero_le _⟩ (fun H locs hP hD hS => ?_)
  cases h
abbrev rm_Cc_pack_r : Room := { frames := 5, cells := 0, slots := 0, locals := 157 }
set_option maxRecDepth 100000 in
set_option maxHeartbeats 4000000 in
theorem c_Cc_pack_r (l : Launch) (D : va_G) (cI cZ cJ : ClassId) (xCc : Nat) (xGo : Nat → Nat) (xFo : Nat → Nat) (xPk : Nat → Nat) (xSk : Nat → Nat) (xAi : Nat → Nat) (xSh : Nat → Nat) (xJo : Nat → Nat) (sz : Nat) (gGo : St) (gFo : St) (gPk : St) (qPk : Int64) (gSk : St) (gAi : St) (gSh : St) (gJo : St) (p1 : Int32) (p2 : Int32) (r : Int32) (gPk1 : St) (qPk1 : Int64) (h : f_Cc_pack gGo gFo gPk qPk gSk gAi gSh gJo p1 p2 = some (.inl (r, gPk1, qPk1))) : MI l y_Cc_pack b_Cc_pack 3 (some .int) rm_Cc_pack_r D (TYS cI cZ cJ) [.ref xCc, .int p1, .int p2] (wCc xCc cI cZ xGo xFo xPk xSk xAi xSh xJo gGo gFo gPk qPk gSk gAi gSh gJo) sz r (wCc xCc cI cZ xGo xFo xPk xSk xAi xSh xJo gGo gFo gPk1 qPk1 gSk gAi gSh gJo) := by
  refine mi_start (own := R_Cc) (by decide +kernel) rfl (Nat.le_of_ble_eq_true rfl) (fun p e s m args below meth c A ls C0 hr hlk hP hD hS hl => ?_)
  obtain ⟨Q, hQ⟩ : ∃ Q, Q = QI below D (TYS cI cZ cJ) A (wCc xCc cI cZ xGo xFo xPk xSk xAi xSh xJo gGo gFo gPk1 qPk1 gSk gAi gSh gJo) r args s := ⟨_, rfl⟩
  rw [← hQ]
  obtain ⟨hx, hb, -, hown, hts, hK, hE, -⟩ := id C0
  have hl : lv_has ls 3 [(0, .ref xCc), (1, .int p1), (2, .int p2)] := hl
  obtain ⟨H, hH⟩ : ∃ H, H = s.heap := ⟨_, rfl⟩
  have hP : va_P D vwCl (wCc xCc cI cZ xGo xFo xPk xSk xAi xSh xJo gGo gFo gPk qPk gSk gAi gSh gJo) H := by rw [hH]; exact hP
  have hS : va_S A s.heap H [] := by rw [hH]; exact hS
  rw [show W p l e rm_Cc_pack_r s m args below meth c s.heap = W p l e rm_Cc_pack_r s m args below meth c H by rw [hH]]
  generalize ([] : List Loc) = locs at hS ⊢
  unfold f_Cc_pack at h
  refine lv_aload_n hx hb d_Cc_pack_0 rfl (lv_at hl 0 rfl) ?_
  refine va_get (ci := 7) (v := .ref (xPk 0)) (C := R_Cc) (T := F_Cc) (N := 7) hx hb hts i_Cc hown hK hP 0 rfl rfl 2 (by decide) (hts _ m_208) (fun _ h9 => h9) rfl d_Cc_pack_1 ?_
  refine lv_aload_n hx hb d_Cc_pack_4 rfl (lv_at hl 0 rfl) ?_
  refine va_get (ci := 7) (v := .ref (xGo 0)) (C := R_Cc) (T := F_Cc) (N := 7) hx hb hts i_Cc hown hK hP 0 rfl rfl 0 (by decide) (hts _ m_206) (fun _ h9 => h9) rfl d_Cc_pack_5 ?_
  refine lv_iload_n hx hb d_Cc_pack_8 rfl (lv_at hl 1 rfl) ?_
  refine lv_iload_n hx hb d_Cc_pack_9 rfl (lv_at hl 2 rfl) ?_
  obtain ⟨r_1, gPk_2, qPk_3, hc_4, h⟩ | ⟨E9, hc_4, h⟩ := xc3_i h
  rotate_left
  · cases h
  refine cVi (ws' := (wCc xCc cI cZ xGo xFo xPk xSk xAi xSh xJo gGo gFo gPk_2 qPk_3 gSk gAi gSh gJo)) (As := [.ref (xGo 0), .int p1, .int p2]) (rest := []) C0 hP hD hS hl.1 [13, 14, 15, 16, 17, 1, 2, 3, 4, 5, 6] (c_Pk_packSet_r l D cI cZ cJ xPk xGo H.size gPk qPk gGo p1 p2 r_1 gPk_2 qPk_3 hc_4) k_Pk_packSet m_429 rfl rfl rfl rfl rfl rfl ⟨by decide, by decide⟩ ⟨rfl, rfl⟩ rfl (Nat.le_of_ble_eq_true rfl) d_Cc_pack_10 ⟨Nat.zero_le _, Nat.zero_le _⟩ (fun H locs hP hD hS => ?_)
  cases h
  rw [hQ]
  exact mi_ret C0 hr rfl hlk hP hD hS d_Cc_pack_13
abbrev rm_Cc_pack_t : Room := { frames := 8, cells := 1, slots := 6, locals := 157 }
set_option maxRecDepth 100000 in
set_option maxHeartbeats 4000000 in
theorem c_Cc_pack_t (l : Launch) (hltr : l.stackTraces = false) (D : va_G) (cI cZ cJ : ClassId) (xCc : Nat) (xGo : Nat → Nat) (xFo : Nat → Nat) (xPk : Nat → Nat) (xSk : Nat → Nat) (xAi : Nat → Nat) (xSh : Nat → Nat) (xJo : Nat → Nat) (sz : Nat) (gGo : St) (gFo : St) (gPk : St) (qPk : Int64) (gSk : St) (gAi : St) (gSh : St) (gJo : St) (p1 : Int32) (p2 : Int32) (E : String) (h : f_Cc_pack gGo gFo gPk qPk gSk gAi gSh gJo p1 p2 = some (.inr E)) : MT l y_Cc_pack b_Cc_pack 3 (some .int) rm_Cc_pack_t D (TYS cI cZ cJ) [.ref xCc, .int p1, .int p2] (wCc xCc cI cZ xGo xFo xPk xSk xAi xSh xJo gGo gFo gPk qPk gSk gAi gSh gJo) sz E := by
  refine mt_start (own := R_Cc) (by decide +kernel) rfl (Nat.le_of_ble_eq_true rfl) (fun p e s m args below meth c A ls C0 hAe hno hlk hP hD hS hl => ?_)
  obtain ⟨Q, hQ⟩ : ∃ Q, Q = QT below D (TYS cI cZ cJ) (wCc xCc cI cZ xGo xFo xPk xSk xAi xSh xJo gGo gFo gPk qPk gSk gAi gSh gJo) E args s := ⟨_, rfl⟩
  rw [← hQ]
  obtain ⟨hx, hb, -, hown, hts, hK, hE, -⟩ := id C0
  have hl : lv_has ls 3 [(0, .ref xCc), (1, .int p1), (2, .int p2)] := hl
  obtain ⟨H, hH⟩ : ∃ H, H = s.heap := ⟨_, rfl⟩
  have hP : va_P D vwCl (wCc xCc cI cZ xGo xFo xPk xSk xAi xSh xJo gGo gFo gPk qPk gSk gAi gSh gJo) H := by rw [hH]; exact hP
  have hS : va_S A s.heap H [] := by rw [hH]; exact hS
  rw [show W p l e rm_Cc_pack_t s m args below meth c s.heap = W p l e rm_Cc_pack_t s m args below meth c H by rw [hH]]
  generalize ([] : List Loc) = locs at hS ⊢
  unfold f_Cc_pack at h
  refine lv_aload_n hx hb d_Cc_pack_0 rfl (lv_at hl 0 rfl) ?_
  refine va_get (ci := 7) (v := .ref (xPk 0)) (C := R_Cc) (T := F_Cc) (N := 7) hx hb hts i_Cc hown hK hP 0 rfl rfl 2 (by decide) (hts _ m_208) (fun _ h9 => h9) rfl d_Cc_pack_1 ?_
  refine lv_aload_n hx hb d_Cc_pack_4 rfl (lv_at hl 0 rfl) ?_
  refine va_get (ci := 7) (v := .ref (xGo 0)) (C := R_Cc) (T := F_Cc) (N := 7) hx hb hts i_Cc hown hK hP 0 rfl rfl 0 (by decide) (hts _ m_206) (fun _ h9 => h9) rfl d_Cc_pack_5 ?_
  refine lv_iload_n hx hb d_Cc_pack_8 rfl (lv_at hl 1 rfl) ?_
  refine lv_iload_n hx hb d_Cc_pack_9 rfl (lv_at hl 2 rfl) ?_
  obtain ⟨r_1, gPk_2, qPk_3, hc_4, h⟩ | ⟨E9, hc_4, h⟩ := xc3_i h
  rotate_left
  · cases h
    rw [hQ]
    exact x_out C0 hAe hno hlk hP hD hS [13, 14, 15, 16, 17, 1, 2, 3, 4, 5, 6] rfl rfl rfl (rV (As := [.ref (xGo 0), .int p1, .int p2]) (rest := []) C0 hP hD hS hl.1 [13, 14, 15, 16, 17, 1, 2, 3, 4, 5, 6] (c_Pk_packSet_t l hltr D cI cZ cJ xPk xGo H.size gPk qPk gGo p1 p2 E hc_4) k_Pk_packSet m_429 rfl rfl rfl rfl ⟨by decide, by decide⟩ ⟨rfl, rfl⟩ rfl (Nat.le_of_ble_eq_true rfl) d_Cc_pack_10 ⟨by decide, by decide⟩) ⟨rfl, rfl⟩
  refine cVi (ws' := (wCc xCc cI cZ xGo xFo xPk xSk xAi xSh xJo gGo gFo gPk_2 qPk_3 gSk gAi gSh gJo)) (As := [.ref (xGo 0), .int p1, .int p2]) (rest := []) C0 hP hD hS hl.1 [13, 14, 15, 16, 17, 1, 2, 3, 4, 5, 6] (c_Pk_packSet_r l D cI cZ cJ xPk xGo H.size gPk qPk gGo p1 p2 r_1 gPk_2 qPk_3 hc_4) k_Pk_packSet m_429 rfl rfl rfl rfl rfl rfl ⟨by decide, by decide⟩ ⟨rfl, rfl⟩ rfl (Nat.le_of_ble_eq_true rfl) d_Cc_pack_10 ⟨Nat.zero_le _, Nat.zero_le _⟩ (fun H locs hP hD hS => ?_)
  cases h
abbrev rm_Cc_size_r : Room := { frames := 2, cells := 0, slots := 0, locals := 42 }
set_option maxRecDepth 100000 in
set_option maxHeartbeats 4000000 in
theorem c_Cc_size_r (l : Launch) (D : va_G) (cI cZ cJ : ClassId) (xCc : Nat) (xGo : Nat → Nat) (xFo : Nat → Nat) (xPk : Nat → Nat) (xSk : Nat → Nat) (xAi : Nat → Nat) (xSh : Nat → Nat) (xJo : Nat → Nat) (sz : Nat) (gGo : St) (gFo : St) (gPk : St) (qPk : Int64) (gSk : St) (gAi : St) (gSh : St) (gJo : St) (p1 : Int32) (r : Int32) (h : f_Cc_size gGo gFo gPk qPk gSk gAi gSh gJo p1 = some (.inl r)) : MI l y_Cc_size b_Cc_size 2 (some .int) rm_Cc_size_r D (TYS cI cZ cJ) [.ref xCc, .int p1] (wCc xCc cI cZ xGo xFo xPk xSk xAi xSh xJo gGo gFo gPk qPk gSk gAi gSh gJo) sz r (wCc xCc cI cZ xGo xFo xPk xSk xAi xSh xJo gGo gFo gPk qPk gSk gAi gSh gJo) := by
  refine mi_start (own := R_Cc) (by decide +kernel) rfl (Nat.le_of_ble_eq_true rfl) (fun p e s m args below meth c A ls C0 hr hlk hP hD hS hl => ?_)
  obtain ⟨Q, hQ⟩ : ∃ Q, Q = QI below D (TYS cI cZ cJ) A (wCc xCc cI cZ xGo xFo xPk xSk xAi xSh xJo gGo gFo gPk qPk gSk gAi gSh gJo) r args s := ⟨_, rfl⟩
  rw [← hQ]
  obtain ⟨hx, hb, -, hown, hts, hK, hE, -⟩ := id C0
  have hl : lv_has ls 2 [(0, .ref xCc), (1, .int p1)] := hl
  obtain ⟨H, hH⟩ : ∃ H, H = s.heap := ⟨_, rfl⟩
  have hP : va_P D vwCl (wCc xCc cI cZ xGo xFo xPk xSk xAi xSh xJo gGo gFo gPk qPk gSk gAi gSh gJo) H := by rw [hH]; exact hP
  have hS : va_S A s.heap H [] := by rw [hH]; exact hS
  rw [show W p l e rm_Cc_size_r s m args below meth c s.heap = W p l e rm_Cc_size_r s m args below meth c H by rw [hH]]
  generalize ([] : List Loc) = locs at hS ⊢
  unfold f_Cc_size at h
  refine lv_aload_n hx hb d_Cc_size_0 rfl (lv_at hl 0 rfl) ?_
  refine va_get (ci := 7) (v := .ref (xPk 0)) (C := R_Cc) (T := F_Cc) (N := 7) hx hb hts i_Cc hown hK hP 0 rfl rfl 2 (by decide) (hts _ m_208) (fun _ h9 => h9) rfl d_Cc_size_1 ?_
  refine lv_iload_n hx hb d_Cc_size_4 rfl (lv_at hl 1 rfl) ?_
  obtain ⟨r_1, hc_2, h⟩ | ⟨E9, hc_2, h⟩ := xc1_i h
  rotate_left
  · cases h
  refine cVi (ws' := (wCc xCc cI cZ xGo xFo xPk xSk xAi xSh xJo gGo gFo gPk qPk gSk gAi gSh gJo)) (As := [.int p1]) (rest := []) C0 hP hD hS hl.1 [13, 14, 15, 16, 17] (c_Pk_sizeAlong_r l D cI cZ cJ xPk H.size gPk qPk p1 r_1 hc_2) k_Pk_sizeAlong m_499 rfl rfl rfl rfl rfl (rp_same rfl) ⟨by decide, by decide⟩ ⟨rfl, rfl⟩ rfl (Nat.le_of_ble_eq_true rfl) d_Cc_size_5 ⟨Nat.zero_le _, Nat.zero_le _⟩ (fun H locs hP hD hS => ?_)
  cases h
  rw [hQ]
  exact mi_ret C0 hr rfl hlk hP hD hS d_Cc_size_8
abbrev rm_Cc_size_t : Room := { frames := 8, cells := 1, slots := 6, locals := 124 }
set_option maxRecDepth 100000 in
set_option maxHeartbeats 4000000 in
theorem c_Cc_size_t (l : Launch) (hltr : l.stackTraces = false) (D : va_G) (cI cZ cJ : ClassId) (xCc : Nat) (xGo : Nat → Nat) (xFo : Nat → Nat) (xPk : Nat → Nat) (xSk : Nat → Nat) (xAi : Nat → Nat) (xSh : Nat → Nat) (xJo : Nat → Nat) (sz : Nat) (gGo : St) (gFo : St) (gPk : St) (qPk : Int64) (gSk : St) (gAi : St) (gSh : St) (gJo : St) (p1 : Int32) (E : String) (h : f_Cc_size gGo gFo gPk qPk gSk gAi gSh gJo p1 = some (.inr E)) : MT l y_Cc_size b_Cc_size 2 (some .int) rm_Cc_size_t D (TYS cI cZ cJ) [.ref xCc, .int p1] (wCc xCc cI cZ xGo xFo xPk xSk xAi xSh xJo gGo gFo gPk qPk gSk gAi gSh gJo) sz E := by
  refine mt_start (own := R_Cc) (by decide +kernel) rfl (Nat.le_of_ble_eq_true rfl) (fun p e s m args below meth c A ls C0 hAe hno hlk hP hD hS hl => ?_)
  obtain ⟨Q, hQ⟩ : ∃ Q, Q = QT below D (TYS cI cZ cJ) (wCc xCc cI cZ xGo xFo xPk xSk xAi xSh xJo gGo gFo gPk qPk gSk gAi gSh gJo) E args s := ⟨_, rfl⟩
  rw [← hQ]
  obtain ⟨hx, hb, -, hown, hts, hK, hE, -⟩ := id C0
  have hl : lv_has ls 2 [(0, .ref xCc), (1, .int p1)] := hl
  obtain ⟨H, hH⟩ : ∃ H, H = s.heap := ⟨_, rfl⟩
  have hP : va_P D vwCl (wCc xCc cI cZ xGo xFo xPk xSk xAi xSh xJo gGo gFo gPk qPk gSk gAi gSh gJo) H := by rw [hH]; exact hP
  have hS : va_S A s.heap H [] := by rw [hH]; exact hS
  rw [show W p l e rm_Cc_size_t s m args below meth c s.heap = W p l e rm_Cc_size_t s m args below meth c H by rw [hH]]
  generalize ([] : List Loc) = locs at hS ⊢
  unfold f_Cc_size at h
  refine lv_aload_n hx hb d_Cc_size_0 rfl (lv_at hl 0 rfl) ?_
  refine va_get (ci := 7) (v := .ref (xPk 0)) (C := R_Cc) (T := F_Cc) (N := 7) hx hb hts i_Cc hown hK hP 0 rfl rfl 2 (by decide) (hts _ m_208) (fun _ h9 => h9) rfl d_Cc_size_1 ?_
  refine lv_iload_n hx hb d_Cc_size_4 rfl (lv_at hl 1 rfl) ?_
  obtain ⟨r_1, hc_2, h⟩ | ⟨E9, hc_2, h⟩ := xc1_i h
  rotate_left
  · cases h
    rw [hQ]
    exact x_out C0 hAe hno hlk hP hD hS [13, 14, 15, 16, 17] rfl rfl rfl (rV (As := [.int p1]) (rest := []) C0 hP hD hS hl.1 [13, 14, 15, 16, 17] (c_Pk_sizeAlong_t l hltr D cI cZ cJ xPk H.size gPk qPk p1 E hc_2) k_Pk_sizeAlong m_499 rfl rfl rfl rfl ⟨by decide, by decide⟩ ⟨rfl, rfl⟩ rfl (Nat.le_of_ble_eq_true rfl) d_Cc_size_5 ⟨by decide, by decide⟩) ⟨rfl, rfl⟩
  refine cVi (ws' := (wCc xCc cI cZ xGo xFo xPk xSk xAi xSh xJo gGo gFo gPk qPk gSk gAi gSh gJo)) (As := [.int p1]) (rest := []) C0 hP hD hS hl.1 [13, 14, 15, 16, 17] (c_Pk_sizeAlong_r l D cI cZ cJ xPk H.size gPk qPk p1 r_1 hc_2) k_Pk_sizeAlong m_499 rfl rfl rfl rfl rfl (rp_same rfl) ⟨by decide, by decide⟩ ⟨rfl, rfl⟩ rfl (Nat.le_of_ble_eq_true rfl) d_Cc_size_5 ⟨Nat.zero_le _, Nat.zero_le _⟩ (fun H locs hP hD hS => ?_)
  cases h
abbrev rm_Cc_at_r : Room := { frames := 2, cells := 0, slots := 0, locals := 43 }
set_option maxRecDepth 100000 in
set_option maxHeartbeats 4000000 in
theorem c_Cc_at_r (l : Launch) (D : va_G) (cI cZ cJ : ClassId) (xCc : Nat) (xGo : Nat → Nat) (xFo : Nat → Nat) (xPk : Nat → Nat) (xSk : Nat → Nat) (xAi : Nat → Nat) (xSh : Nat → Nat) (xJo : Nat → Nat) (sz : Nat) (gGo : St) (gFo : St) (gPk : St) (qPk : Int64) (gSk : St) (gAi : St) (gSh : St) (gJo : St) (p1 : Int32) (p2 : Int32) (r : Int32) (h : f_Cc_at gGo gFo gPk qPk gSk gAi gSh gJo p1 p2 = some (.inl r)) : MI l y_Cc_at b_Cc_at 3 (some .int) rm_Cc_at_r D (TYS cI cZ cJ) [.ref xCc, .int p1, .int p2] (wCc xCc cI cZ xGo xFo xPk xSk xAi xSh xJo gGo gFo gPk qPk gSk gAi gSh gJo) sz r (wCc xCc cI cZ xGo xFo xPk xSk xAi xSh xJo gGo gFo gPk qPk gSk gAi gSh gJo) := by
  refine mi_start (own := R_Cc) (by decide +kernel) rfl (Nat.le_of_ble_eq_true rfl) (fun p e s m args below meth c A ls C0 hr hlk hP hD hS hl => ?_)
  obtain ⟨Q, hQ⟩ : ∃ Q, Q = QI below D (TYS cI cZ cJ) A (wCc xCc cI cZ xGo xFo xPk xSk xAi xSh xJo gGo gFo gPk qPk gSk gAi gSh gJo) r args s := ⟨_, rfl⟩
  rw [← hQ]
  obtain ⟨hx, hb, -, hown, hts, hK, hE, -⟩ := id C0
  have hl : lv_has ls 3 [(0, .ref xCc), (1, .int p1), (2, .int p2)] := hl
  obtain ⟨H, hH⟩ : ∃ H, H = s.heap := ⟨_, rfl⟩
  have hP : va_P D vwCl (wCc xCc cI cZ xGo xFo xPk xSk xAi xSh xJo gGo gFo gPk qPk gSk gAi gSh gJo) H := by rw [hH]; exact hP
  have hS : va_S A s.heap H [] := by rw [hH]; exact hS
  rw [show W p l e rm_Cc_at_r s m args below meth c s.heap = W p l e rm_Cc_at_r s m args below meth c H by rw [hH]]
  generalize ([] : List Loc) = locs at hS ⊢
  unfold f_Cc_at at h
  refine lv_iload_n hx hb d_Cc_at_0 rfl (lv_at hl 1 rfl) ?_
  refine lv_aload_n hx hb d_Cc_at_1 rfl (lv_at hl 0 rfl) ?_
  refine va_get (ci := 7) (v := .ref (xGo 0)) (C := R_Cc) (T := F_Cc) (N := 7) hx hb hts i_Cc hown hK hP 0 rfl rfl 0 (by decide) (hts _ m_206) (fun _ h9 => h9) rfl d_Cc_at_2 ?_
  refine va_getN (ci := 2) (v := .int (gGo 0 5)) (C := R_Go) (T := F_Go) (N := 6) hx hb hts i_Go hown hK hP 1 rfl rfl 5 (by decide) (va_Nw.use rfl (hE.1 _ (List.mem_of_getElem? (i := 2) rfl))) (fun _ h9 => h9) rfl d_Cc_at_5 ?_
  obtain ⟨hc_1, h⟩ | ⟨E9, hc_1, h⟩ := xc0_i h
  rotate_left
  · cases h
  refine cSv (ws' := (wCc xCc cI cZ xGo xFo xPk xSk xAi xSh xJo gGo gFo gPk qPk gSk gAi gSh gJo)) (As := [.int p1, .int (gGo 0 5)]) (rest := []) C0 hP hD hS hl.1 [] (c_Cc_requireIndex_r l D cI cZ cJ  H.size p1 (gGo 0 5) hc_1) k_Cc_requireIndex m_518 rfl rfl rfl (rp_same rfl) ⟨by decide, by decide⟩ ⟨rfl, rfl⟩ rfl (Nat.le_of_ble_eq_true rfl) d_Cc_at_8 ⟨Nat.zero_le _, Nat.zero_le _⟩ (fun H locs hP hD hS => ?_)
  refine lv_aload_n hx hb d_Cc_at_11 rfl (lv_at hl 0 rfl) ?_
  refine va_get (ci := 7) (v := .ref (xPk 0)) (C := R_Cc) (T := F_Cc) (N := 7) hx hb hts i_Cc hown hK hP 0 rfl rfl 2 (by decide) (hts _ m_208) (fun _ h9 => h9) rfl d_Cc_at_12 ?_
  refine lv_iload_n hx hb d_Cc_at_15 rfl (lv_at hl 1 rfl) ?_
  refine lv_iload_n hx hb d_Cc_at_16 rfl (lv_at hl 2 rfl) ?_
  obtain ⟨r_2, hc_3, h⟩ | ⟨E9, hc_3, h⟩ := xc1_i h
  rotate_left
  · cases h
  refine cVi (ws' := (wCc xCc cI cZ xGo xFo xPk xSk xAi xSh xJo gGo gFo gPk qPk gSk gAi gSh gJo)) (As := [.int p1, .int p2]) (rest := []) C0 hP hD hS hl.1 [13, 14, 15, 16, 17] (c_Pk_tell_r l D cI cZ cJ xPk H.size gPk qPk p1 p2 r_2 hc_3) k_Pk_tell m_519 rfl rfl rfl rfl rfl (rp_same rfl) ⟨by decide, by decide⟩ ⟨rfl, rfl⟩ rfl (Nat.le_of_ble_eq_true rfl) d_Cc_at_17 ⟨Nat.zero_le _, Nat.zero_le _⟩ (fun H locs hP hD hS => ?_)
  cases h
  rw [hQ]
  exact mi_ret C0 hr rfl hlk hP hD hS d_Cc_at_20
abbrev rm_Cc_at_t : Room := { frames := 8, cells := 1, slots := 6, locals := 125 }
set_option maxRecDepth 100000 in
set_option maxHeartbeats 4000000 in
theorem c_Cc_at_t (l : Launch) (hltr : l.stackTraces = false) (D : va_G) (cI cZ cJ : ClassId) (xCc : Nat) (xGo : Nat → Nat) (xFo : Nat → Nat) (xPk : Nat → Nat) (xSk : Nat → Nat) (xAi : Nat → Nat) (xSh : Nat → Nat) (xJo : Nat → Nat) (sz : Nat) (gGo : St) (gFo : St) (gPk : St) (qPk : Int64) (gSk : St) (gAi : St) (gSh : St) (gJo : St) (p1 : Int32) (p2 : Int32) (E : String) (h : f_Cc_at gGo gFo gPk qPk gSk gAi gSh gJo p1 p2 = some (.inr E)) : MT l y_Cc_at b_Cc_at 3 (some .int) rm_Cc_at_t D (TYS cI cZ cJ) [.ref xCc, .int p1, .int p2] (wCc xCc cI cZ xGo xFo xPk xSk xAi xSh xJo gGo gFo gPk qPk gSk gAi gSh gJo) sz E := by
  refine mt_start (own := R_Cc) (by decide +kernel) rfl (Nat.le_of_ble_eq_true rfl) (fun p e s m args below meth c A ls C0 hAe hno hlk hP hD hS hl => ?_)
  obtain ⟨Q, hQ⟩ : ∃ Q, Q = QT below D (TYS cI cZ cJ) (wCc xCc cI cZ xGo xFo xPk xSk xAi xSh xJo gGo gFo gPk qPk gSk gAi gSh gJo) E args s := ⟨_, rfl⟩
  rw [← hQ]
  obtain ⟨hx, hb, -, hown, hts, hK, hE, -⟩ := id C0
  have hl : lv_has ls 3 [(0, .ref xCc), (1, .int p1), (2, .int p2)] := hl
  obtain ⟨H, hH⟩ : ∃ H, H = s.heap := ⟨_, rfl⟩
  have hP : va_P D vwCl (wCc xCc cI cZ xGo xFo xPk xSk xAi xSh xJo gGo gFo gPk qPk gSk gAi gSh gJo) H := by rw [hH]; exact hP
  have hS : va_S A s.heap H [] := by rw [hH]; exact hS
  rw [show W p l e rm_Cc_at_t s m args below meth c s.heap = W p l e rm_Cc_at_t s m args below meth c H by rw [hH]]
  generalize ([] : List Loc) = locs at hS ⊢
  unfold f_Cc_at at h
  refine lv_iload_n hx hb d_Cc_at_0 rfl (lv_at hl 1 rfl) ?_
  refine lv_aload_n hx hb d_Cc_at_1 rfl (lv_at hl 0 rfl) ?_
  refine va_get (ci := 7) (v := .ref (xGo 0)) (C := R_Cc) (T := F_Cc) (N := 7) hx hb hts i_Cc hown hK hP 0 rfl rfl 0 (by decide) (hts _ m_206) (fun _ h9 => h9) rfl d_Cc_at_2 ?_
  refine va_getN (ci := 2) (v := .int (gGo 0 5)) (C := R_Go) (T := F_Go) (N := 6) hx hb hts i_Go hown hK hP 1 rfl rfl 5 (by decide) (va_Nw.use rfl (hE.1 _ (List.mem_of_getElem? (i := 2) rfl))) (fun _ h9 => h9) rfl d_Cc_at_5 ?_
  obtain ⟨hc_1, h⟩ | ⟨E9, hc_1, h⟩ := xc0_i h
  rotate_left
  · cases h
    rw [hQ]
    exact x_out C0 hAe hno hlk hP hD hS [] rfl rfl rfl (rS (As := [.int p1, .int (gGo 0 5)]) (rest := []) C0 hP hD hS hl.1 [] (c_Cc_requireIndex_t l hltr D cI cZ cJ  H.size p1 (gGo 0 5) E hc_1) k_Cc_requireIndex m_518 rfl rfl ⟨by decide, by decide⟩ ⟨rfl, rfl⟩ rfl (Nat.le_of_ble_eq_true rfl) d_Cc_at_8 ⟨by decide, by decide⟩) ⟨rfl, rfl⟩
  refine cSv (ws' := (wCc xCc cI cZ xGo xFo xPk xSk xAi xSh xJo gGo gFo gPk qPk gSk gAi gSh gJo)) (As := [.int p1, .int (gGo 0 5)]) (rest := []) C0 hP hD hS hl.1 [] (c_Cc_requireIndex_r l D cI cZ cJ  H.size p1 (gGo 0 5) hc_1) k_Cc_requireIndex m_518 rfl rfl rfl (rp_same rfl) ⟨by decide, by decide⟩ ⟨rfl, rfl⟩ rfl (Nat.le_of_ble_eq_true rfl) d_Cc_at_8 ⟨Nat.zero_le _, Nat.zero_le _⟩ (fun H locs hP hD hS => ?_)
  refine lv_aload_n hx hb d_Cc_at_11 rfl (lv_at hl 0 rfl) ?_
  refine va_get (ci := 7) (v := .ref (xPk 0)) (C := R_Cc) (T := F_Cc) (N := 7) hx hb hts i_Cc hown hK hP 0 rfl rfl 2 (by decide) (hts _ m_208) (fun _ h9 => h9) rfl d_Cc_at_12 ?_
  refine lv_iload_n hx hb d_Cc_at_15 rfl (lv_at hl 1 rfl) ?_
  refine lv_iload_n hx hb d_Cc_at_16 rfl (lv_at hl 2 rfl) ?_
  obtain ⟨r_2, hc_3, h⟩ | ⟨E9, hc_3, h⟩ := xc1_i h
  rotate_left
  · cases h
    rw [hQ]
    exact x_out C0 hAe hno hlk hP hD hS [13, 14, 15, 16, 17] rfl rfl rfl (rV (As := [.int p1, .int p2]) (rest := []) C0 hP hD hS hl.1 [13, 14, 15, 16, 17] (c_Pk_tell_t l hltr D cI cZ cJ xPk H.size gPk qPk p1 p2 E hc_3) k_Pk_tell m_519 rfl rfl rfl rfl ⟨by decide, by decide⟩ ⟨rfl, rfl⟩ rfl (Nat.le_of_ble_eq_true rfl) d_Cc_at_17 ⟨by decide, by decide⟩) ⟨rfl, rfl⟩
  refine cVi (ws' := (wCc xCc cI cZ xGo xFo xPk xSk xAi xSh xJo gGo gFo gPk qPk gSk gAi gSh gJo)) (As := [.int p1, .int p2]) (rest := []) C0 hP hD hS hl.1 [13, 14, 15, 16, 17] (c_Pk_tell_r l D cI cZ cJ xPk H.size gPk qPk p1 p2 r_2 hc_3) k_Pk_tell m_519 rfl rfl rfl rfl rfl (rp_same rfl) ⟨by decide, by decide⟩ ⟨rfl, rfl⟩ rfl (Nat.le_of_ble_eq_true rfl) d_Cc_at_17 ⟨Nat.zero_le _, Nat.zero_le _⟩ (fun H locs hP hD hS => ?_)
  cases h
abbrev rm_Cc_crate_r : Room := { frames := 2, cells := 0, slots := 0, locals := 45 }
set_option maxRecDepth 100000 in
set_option maxHeartbeats 4000000 in
theorem c_Cc_crate_r (l : Launch) (D : va_G) (cI cZ cJ : ClassId) (xCc : Nat) (xGo : Nat → Nat) (xFo : Nat → Nat) (xPk : Nat → Nat) (xSk : Nat → Nat) (xAi : Nat → Nat) (xSh : Nat → Nat) (xJo : Nat → Nat) (sz : Nat) (gGo : St) (gFo : St) (gPk : St) (qPk : Int64) (gSk : St) (gAi : St) (gSh : St) (gJo : St) (p1 : Int32) (p2 : Int32) (p3 : Int32) (r : Int32) (gSk1 : St) (h : f_Cc_crate gGo gFo gPk qPk gSk gAi gSh gJo p1 p2 p3 = some (.inl (r, gSk1))) : MI l y_Cc_crate b_Cc_crate 4 (some .int) rm_Cc_crate_r D (TYS cI cZ cJ) [.ref xCc, .int p1, .int p2, .int p3] (wCc xCc cI cZ xGo xFo xPk xSk xAi xSh xJo gGo gFo gPk qPk gSk gAi gSh gJo) sz r (wCc xCc cI cZ xGo xFo xPk xSk xAi xSh xJo gGo gFo gPk qPk gSk1 gAi gSh gJo) := by
  refine mi_start (own := R_Cc) (by decide +kernel) rfl (Nat.le_of_ble_eq_true rfl) (fun p e s m args below meth c A ls C0 hr hlk hP hD hS hl => ?_)
  obtain ⟨Q, hQ⟩ : ∃ Q, Q = QI below D (TYS cI cZ cJ) A (wCc xCc cI cZ xGo xFo xPk xSk xAi xSh xJo gGo gFo gPk qPk gSk1 gAi gSh gJo) r args s := ⟨_, rfl⟩
  rw [← hQ]
  obtain ⟨hx, hb, -, hown, hts, hK, hE, -⟩ := id C0
  have hl : lv_has ls 4 [(0, .ref xCc), (1, .int p1), (2, .int p2), (3, .int p3)] := hl
  obtain ⟨H, hH⟩ : ∃ H, H = s.heap := ⟨_, rfl⟩
  have hP : va_P D vwCl (wCc xCc cI cZ xGo xFo xPk xSk xAi xSh xJo gGo gFo gPk qPk gSk gAi gSh gJo) H := by rw [hH]; exact hP
  have hS : va_S A s.heap H [] := by rw [hH]; exact hS
  rw [show W p l e rm_Cc_crate_r s m args below meth c s.heap = W p l e rm_Cc_crate_r s m args below meth c H by rw [hH]]
  generalize ([] : List Loc) = locs at hS ⊢
  unfold f_Cc_crate at h
  refine lv_aload_n hx hb d_Cc_crate_0 rfl (lv_at hl 0 rfl) ?_
  refine va_get (ci := 7) (v := .ref (xSk 0)) (C := R_Cc) (T := F_Cc) (N := 7) hx hb hts i_Cc hown hK hP 0 rfl rfl 3 (by decide) (hts _ m_209) (fun _ h9 => h9) rfl d_Cc_crate_1 ?_
  refine lv_iload_n hx hb d_Cc_crate_4 rfl (lv_at hl 1 rfl) ?_
  refine lv_iload_n hx hb d_Cc_crate_5 rfl (lv_at hl 2 rfl) ?_
  refine lv_iload_n hx hb d_Cc_crate_6 rfl (lv_at hl 3 rfl) ?_
  obtain ⟨r_1, gSk_2, hc_3, h⟩ | ⟨E9, hc_3, h⟩ := xc2_i h
  rotate_left
  · cases h
  refine cVi (ws' := (wCc xCc cI cZ xGo xFo xPk xSk xAi xSh xJo gGo gFo gPk qPk gSk_2 gAi gSh gJo)) (As := [.int p1, .int p2, .int p3]) (rest := []) C0 hP hD hS hl.1 [18, 19, 20, 21, 22] (c_Sk_add_r l D cI cZ cJ xSk H.size gSk p1 p2 p3 r_1 gSk_2 hc_3) k_Sk_add m_531 rfl rfl rfl rfl rfl rfl ⟨by decide, by decide⟩ ⟨rfl, rfl⟩ rfl (Nat.le_of_ble_eq_true rfl) d_Cc_crate_7 ⟨Nat.zero_le _, Nat.zero_le _⟩ (fun H locs hP hD hS => ?_)
  cases h
  rw [hQ]
  exact mi_ret C0 hr rfl hlk hP hD hS d_Cc_crate_10
abbrev rm_Cc_crate_t : Room := { frames := 8, cells := 1, slots := 6, locals := 127 }
set_option maxRecDepth 100000 in
set_option maxHeartbeats 4000000 in
theorem c_Cc_crate_t (l : Launch) (hltr : l.stackTraces = false) (D : va_G) (cI cZ cJ : ClassId) (xCc : Nat) (xGo : Nat → Nat) (xFo : Nat → Nat) (xPk : Nat → Nat) (xSk : Nat → Nat) (xAi : Nat → Nat) (xSh : Nat → Nat) (xJo : Nat → Nat) (sz : Nat) (gGo : St) (gFo : St) (gPk : St) (qPk : Int64) (gSk : St) (gAi : St) (gSh : St) (gJo : St) (p1 : Int32) (p2 : Int32) (p3 : Int32) (E : String) (h : f_Cc_crate gGo gFo gPk qPk gSk gAi gSh gJo p1 p2 p3 = some (.inr E)) : MT l y_Cc_crate b_Cc_crate 4 (some .int) rm_Cc_crate_t D (TYS cI cZ cJ) [.ref xCc, .int p1, .int p2, .int p3] (wCc xCc cI cZ xGo xFo xPk xSk xAi xSh xJo gGo gFo gPk qPk gSk gAi gSh gJo) sz E := by
  refine mt_start (own := R_Cc) (by decide +kernel) rfl (Nat.le_of_ble_eq_true rfl) (fun p e s m args below meth c A ls C0 hAe hno hlk hP hD hS hl => ?_)
  obtain ⟨Q, hQ⟩ : ∃ Q, Q = QT below D (TYS cI cZ cJ) (wCc xCc cI cZ xGo xFo xPk xSk xAi xSh xJo gGo gFo gPk qPk gSk gAi gSh gJo) E args s := ⟨_, rfl⟩
  rw [← hQ]
  obtain ⟨hx, hb, -, hown, hts, hK, hE, -⟩ := id C0
  have hl : lv_has ls 4 [(0, .ref xCc), (1, .int p1), (2, .int p2), (3, .int p3)] := hl
  obtain ⟨H, hH⟩ : ∃ H, H = s.heap := ⟨_, rfl⟩
  have hP : va_P D vwCl (wCc xCc cI cZ xGo xFo xPk xSk xAi xSh xJo gGo gFo gPk qPk gSk gAi gSh gJo) H := by rw [hH]; exact hP
  have hS : va_S A s.heap H [] := by rw [hH]; exact hS
  rw [show W p l e rm_Cc_crate_t s m args below meth c s.heap = W p l e rm_Cc_crate_t s m args below meth c H by rw [hH]]
  generalize ([] : List Loc) = locs at hS ⊢
  unfold f_Cc_crate at h
  refine lv_aload_n hx hb d_Cc_crate_0 rfl (lv_at hl 0 rfl) ?_
  refine va_get (ci := 7) (v := .ref (xSk 0)) (C := R_Cc) (T := F_Cc) (N := 7) hx hb hts i_Cc hown hK hP 0 rfl rfl 3 (by decide) (hts _ m_209) (fun _ h9 => h9) rfl d_Cc_crate_1 ?_
  refine lv_iload_n hx hb d_Cc_crate_4 rfl (lv_at hl 1 rfl) ?_
  refine lv_iload_n hx hb d_Cc_crate_5 rfl (lv_at hl 2 rfl) ?_
  refine lv_iload_n hx hb d_Cc_crate_6 rfl (lv_at hl 3 rfl) ?_
  obtain ⟨r_1, gSk_2, hc_3, h⟩ | ⟨E9, hc_3, h⟩ := xc2_i h
  rotate_left
  · cases h
    rw [hQ]
    exact x_out C0 hAe hno hlk hP hD hS [18, 19, 20, 21, 22] rfl rfl rfl (rV (As := [.int p1, .int p2, .int p3]) (rest := []) C0 hP hD hS hl.1 [18, 19, 20, 21, 22] (c_Sk_add_t l hltr D cI cZ cJ xSk H.size gSk p1 p2 p3 E hc_3) k_Sk_add m_531 rfl rfl rfl rfl ⟨by decide, by decide⟩ ⟨rfl, rfl⟩ rfl (Nat.le_of_ble_eq_true rfl) d_Cc_crate_7 ⟨by decide, by decide⟩) ⟨rfl, rfl⟩
  refine cVi (ws' := (wCc xCc cI cZ xGo xFo xPk xSk xAi xSh xJo gGo gFo gPk qPk gSk_2 gAi gSh gJo)) (As := [.int p1, .int p2, .int p3]) (rest := []) C0 hP hD hS hl.1 [18, 19, 20, 21, 22] (c_Sk_add_r l D cI cZ cJ xSk H.size gSk p1 p2 p3 r_1 gSk_2 hc_3) k_Sk_add m_531 rfl rfl rfl rfl rfl rfl ⟨by decide, by decide⟩ ⟨rfl, rfl⟩ rfl (Nat.le_of_ble_eq_true rfl) d_Cc_crate_7 ⟨Nat.zero_le _, Nat.zero_le _⟩ (fun H locs hP hD hS => ?_)
  cases h
abbrev rm_Cc_match_r : Room := { frames := 2, cells := 0, slots := 0, locals := 55 }
set_option maxRecDepth 100000 in
set_option maxHeartbeats 4000000 in
theorem c_Cc_match_r (l : Launch) (D : va_G) (cI cZ cJ : ClassId) (xCc : Nat) (xGo : Nat → Nat) (xFo : Nat → Nat) (xPk : Nat → Nat) (xSk : Nat → Nat) (xAi : Nat → Nat) (xSh : Nat → Nat) (xJo : Nat → Nat) (sz : Nat) (gGo : St) (gFo : St) (gPk : St) (qPk : Int64) (gSk : St) (gAi : St) (gSh : St) (gJo : St)  (r : Int32) (gSk1 : St) (h : f_Cc_match gGo gFo gPk qPk gSk gAi gSh gJo = some (.inl (r, gSk1))) : MI l y_Cc_match b_Cc_match 1 (some .int) rm_Cc_match_r D (TYS cI cZ cJ) [.ref xCc] (wCc xCc cI cZ xGo xFo xPk xSk xAi xSh xJo gGo gFo gPk qPk gSk gAi gSh gJo) sz r (wCc xCc cI cZ xGo xFo xPk xSk xAi xSh xJo gGo gFo gPk qPk gSk1 gAi gSh gJo) := by
  refine mi_start (own := R_Cc) (by decide +kernel) rfl (Nat.le_of_ble_eq_true rfl) (fun p e s m args below meth c A ls C0 hr hlk hP hD hS hl => ?_)
  obtain ⟨Q, hQ⟩ : ∃ Q, Q = QI below D (TYS cI cZ cJ) A (wCc xCc cI cZ xGo xFo xPk xSk xAi xSh xJo gGo gFo gPk qPk gSk1 gAi gSh gJo) r args s := ⟨_, rfl⟩
  rw [← hQ]
  obtain ⟨hx, hb, -, hown, hts, hK, hE, -⟩ := id C0
  have hl : lv_has ls 1 [(0, .ref xCc)] := hl
  obtain ⟨H, hH⟩ : ∃ H, H = s.heap := ⟨_, rfl⟩
  have hP : va_P D vwCl (wCc xCc cI cZ xGo xFo xPk xSk xAi xSh xJo gGo gFo gPk qPk gSk gAi gSh gJo) H := by rw [hH]; exact hP
  have hS : va_S A s.heap H [] := by rw [hH]; exact hS
  rw [show W p l e rm_Cc_match_r s m args below meth c s.heap = W p l e rm_Cc_match_r s m args below meth c H by rw [hH]]
  generalize ([] : List Loc) = locs at hS ⊢
  unfold f_Cc_match at h
  refine lv_aload_n hx hb d_Cc_match_0 rfl (lv_at hl 0 rfl) ?_
  refine va_get (ci := 7) (v := .ref (xSk 0)) (C := R_Cc) (T := F_Cc) (N := 7) hx hb hts i_Cc hown hK hP 0 rfl rfl 3 (by decide) (hts _ m_209) (fun _ h9 => h9) rfl d_Cc_match_1 ?_
  refine lv_aload_n hx hb d_Cc_match_4 rfl (lv_at hl 0 rfl) ?_
  refine va_get (ci := 7) (v := .ref (xPk 0)) (C := R_Cc) (T := F_Cc) (N := 7) hx hb hts i_Cc hown hK hP 0 rfl rfl 2 (by decide) (hts _ m_208) (fun _ h9 => h9) rfl d_Cc_match_5 ?_
  refine lv_iconst (v := 0) hx hb d_Cc_match_8 (by decide) ?_
  obtain ⟨r_1, hc_2, h⟩ | ⟨E9, hc_2, h⟩ := xc1_i h
  rotate_left
  · cases h
  refine cVi (ws' := (wCc xCc cI cZ xGo xFo xPk xSk xAi xSh xJo gGo gFo gPk qPk gSk gAi gSh gJo)) (As := [.int 0]) (rest := [.ref (xSk 0)]) C0 hP hD hS hl.1 [13, 14, 15, 16, 17] (c_Pk_sizeAlong_r l D cI cZ cJ xPk H.size gPk qPk 0 r_1 hc_2) k_Pk_sizeAlong m_499 rfl rfl rfl rfl rfl (rp_same rfl) ⟨by decide, by decide⟩ ⟨rfl, rfl⟩ rfl (Nat.le_of_ble_eq_true rfl) d_Cc_match_9 ⟨Nat.zero_le _, Nat.zero_le _⟩ (fun H locs hP hD hS => ?_)
  refine lv_aload_n hx hb d_Cc_match_12 rfl (lv_at hl 0 rfl) ?_
  refine va_get (ci := 7) (v := .ref (xPk 0)) (C := R_Cc) (T := F_Cc) (N := 7) hx hb hts i_Cc hown hK hP 0 rfl rfl 2 (by decide) (hts _ m_208) (fun _ h9 => h9) rfl d_Cc_match_13 ?_
  refine lv_iconst (v := 1) hx hb d_Cc_match_16 (by decide) ?_
  obtain ⟨r_3, hc_4, h⟩ | ⟨E9, hc_4, h⟩ := xc1_i h
  rotate_left
  · cases h
  refine cVi (ws' := (wCc xCc cI cZ xGo xFo xPk xSk xAi xSh xJo gGo gFo gPk qPk gSk gAi gSh gJo)) (As := [.int 1]) (rest := [.int r_1, .ref (xSk 0)]) C0 hP hD hS hl.1 [13, 14, 15, 16, 17] (c_Pk_sizeAlong_r l D cI cZ cJ xPk H.size gPk qPk 1 r_3 hc_4) k_Pk_sizeAlong m_499 rfl rfl rfl rfl rfl (rp_same rfl) ⟨by decide, by decide⟩ ⟨rfl, rfl⟩ rfl (Nat.le_of_ble_eq_true rfl) d_Cc_match_17 ⟨Nat.zero_le _, Nat.zero_le _⟩ (fun H locs hP hD hS => ?_)
  refine lv_aload_n hx hb d_Cc_match_20 rfl (lv_at hl 0 rfl) ?_
  refine va_get (ci := 7) (v := .ref (xPk 0)) (C := R_Cc) (T := F_Cc) (N := 7) hx hb hts i_Cc hown hK hP 0 rfl rfl 2 (by decide) (hts _ m_208) (fun _ h9 => h9) rfl d_Cc_match_21 ?_
  refine lv_iconst (v := 2) hx hb d_Cc_match_24 (by decide) ?_
  obtain ⟨r_5, hc_6, h⟩ | ⟨E9, hc_6, h⟩ := xc1_i h
  rotate_left
  · cases h
  refine cVi (ws' := (wCc xCc cI cZ xGo xFo xPk xSk xAi xSh xJo gGo gFo gPk qPk gSk gAi gSh gJo)) (As := [.int 2]) (rest := [.int r_3, .int r_1, .ref (xSk 0)]) C0 hP hD hS hl.1 [13, 14, 15, 16, 17] (c_Pk_sizeAlong_r l D cI cZ cJ xPk H.size gPk qPk 2 r_5 hc_6) k_Pk_sizeAlong m_499 rfl rfl rfl rfl rfl (rp_same rfl) ⟨by decide, by decide⟩ ⟨rfl, rfl⟩ rfl (Nat.le_of_ble_eq_true rfl) d_Cc_match_25 ⟨Nat.zero_le _, Nat.zero_le _⟩ (fun H locs hP hD hS => ?_)
  obtain ⟨r_7, gSk_8, hc_9, h⟩ := xv2_i h
  refine cVi (ws' := (wCc xCc cI cZ xGo xFo xPk xSk xAi xSh xJo gGo gFo gPk qPk gSk_8 gAi gSh gJo)) (As := [.int r_1, .int r_3, .int r_5]) (rest := []) C0 hP hD hS hl.1 [18, 19, 20, 21, 22] (c_Sk_takeFor_r l D cI cZ cJ xSk H.size gSk r_1 r_3 r_5 r_7 gSk_8 hc_9) k_Sk_takeFor m_544 rfl rfl rfl rfl rfl rfl ⟨by decide, by decide⟩ ⟨rfl, rfl⟩ rfl (Nat.le_of_ble_eq_true rfl) d_Cc_match_28 ⟨Nat.zero_le _, Nat.zero_le _⟩ (fun H locs hP hD hS => ?_)
  cases h
  rw [hQ]
  exact mi_ret C0 hr rfl hlk hP hD hS d_Cc_match_31
abbrev rm_Cc_match_t : Room := { frames := 8, cells := 1, slots := 6, locals := 124 }
set_option maxRecDepth 100000 in
set_option maxHeartbeats 4000000 in
theorem c_Cc_match_t (l : Launch) (hltr : l.stackTraces = false) (D : va_G) (cI cZ cJ : ClassId) (xCc : Nat) (xGo : Nat → Nat) (xFo : Nat → Nat) (xPk : Nat → Nat) (xSk : Nat → Nat) (xAi : Nat → Nat) (xSh : Nat → Nat) (xJo : Nat → Nat) (sz : Nat) (gGo : St) (gFo : St) (gPk : St) (qPk : Int64) (gSk : St) (gAi : St) (gSh : St) (gJo : St)  (E : String) (h : f_Cc_match gGo gFo gPk qPk gSk gAi gSh gJo = some (.inr E)) : MT l y_Cc_match b_Cc_match 1 (some .int) rm_Cc_match_t D (TYS cI cZ cJ) [.ref xCc] (wCc xCc cI cZ xGo xFo xPk xSk xAi xSh xJo gGo gFo gPk qPk gSk gAi gSh gJo) sz E := by
  refine mt_start (own := R_Cc) (by decide +kernel) rfl (Nat.le_of_ble_eq_true rfl) (fun p e s m args below meth c A ls C0 hAe hno hlk hP hD hS hl => ?_)
  obtain ⟨Q, hQ⟩ : ∃ Q, Q = QT below D (TYS cI cZ cJ) (wCc xCc cI cZ xGo xFo xPk xSk xAi xSh xJo gGo gFo gPk qPk gSk gAi gSh gJo) E args s := ⟨_, rfl⟩
  rw [← hQ]
  obtain ⟨hx, hb, -, hown, hts, hK, hE, -⟩ := id C0
  have hl : lv_has ls 1 [(0, .ref xCc)] := hl
  obtain ⟨H, hH⟩ : ∃ H, H = s.heap := ⟨_, rfl⟩
  have hP : va_P D vwCl (wCc xCc cI cZ xGo xFo xPk xSk xAi xSh xJo gGo gFo gPk qPk gSk gAi gSh gJo) H := by rw [hH]; exact hP
  have hS : va_S A s.heap H [] := by rw [hH]; exact hS
  rw [show W p l e rm_Cc_match_t s m args below meth c s.heap = W p l e rm_Cc_match_t s m args below meth c H by rw [hH]]
  generalize ([] : List Loc) = locs at hS ⊢
  unfold f_Cc_match at h
  refine lv_aload_n hx hb d_Cc_match_0 rfl (lv_at hl 0 rfl) ?_
  refine va_get (ci := 7) (v := .ref (xSk 0)) (C := R_Cc) (T := F_Cc) (N := 7) hx hb hts i_Cc hown hK hP 0 rfl rfl 3 (by decide) (hts _ m_209) (fun _ h9 => h9) rfl d_Cc_match_1 ?_
  refine lv_aload_n hx hb d_Cc_match_4 rfl (lv_at hl 0 rfl) ?_
  refine va_get (ci := 7) (v := .ref (xPk 0)) (C := R_Cc) (T := F_Cc) (N := 7) hx hb hts i_Cc hown hK hP 0 rfl rfl 2 (by decide) (hts _ m_208) (fun _ h9 => h9) rfl d_Cc_match_5 ?_
  refine lv_iconst (v := 0) hx hb d_Cc_match_8 (by decide) ?_
  obtain ⟨r_1, hc_2, h⟩ | ⟨E9, hc_2, h⟩ := xc1_i h
  rotate_left
  · cases h
    rw [hQ]
    exact x_out C0 hAe hno hlk hP hD hS [13, 14, 15, 16, 17] rfl rfl rfl (rV (As := [.int 0]) (rest := [.ref (xSk 0)]) C0 hP hD hS hl.1 [13, 14, 15, 16, 17] (c_Pk_sizeAlong_t l hltr D cI cZ cJ xPk H.size gPk qPk 0 E hc_2) k_Pk_sizeAlong m_499 rfl rfl rfl rfl ⟨by decide, by decide⟩ ⟨rfl, rfl⟩ rfl (Nat.le_of_ble_eq_true rfl) d_Cc_match_9 ⟨by decide, by decide⟩) ⟨rfl, rfl⟩
  refine cVi (ws' := (wCc xCc cI cZ xGo xFo xPk xSk xAi xSh xJo gGo gFo gPk qPk gSk gAi gSh gJo)) (As := [.int 0]) (rest := [.ref (xSk 0)]) C0 hP hD hS hl.1 [13, 14, 15, 16, 17] (c_Pk_sizeAlong_r l D cI cZ cJ xPk H.size gPk qPk 0 r_1 hc_2) k_Pk_sizeAlong m_499 rfl rfl rfl rfl rfl (rp_same rfl) ⟨by decide, by decide⟩ ⟨rfl, rfl⟩ rfl (Nat.le_of_ble_eq_true rfl) d_Cc_match_9 ⟨Nat.zero_le _, Nat.zero_le _⟩ (fun H locs hP hD hS => ?_)
  refine lv_aload_n hx hb d_Cc_match_12 rfl (lv_at hl 0 rfl) ?_
  refine va_get (ci := 7) (v := .ref (xPk 0)) (C := R_Cc) (T := F_Cc) (N := 7) hx hb hts i_Cc hown hK hP 0 rfl rfl 2 (by decide) (hts _ m_208) (fun _ h9 => h9) rfl d_Cc_match_13 ?_
  refine lv_iconst (v := 1) hx hb d_Cc_match_16 (by decide) ?_
  obtain ⟨r_3, hc_4, h⟩ | ⟨E9, hc_4, h⟩ := xc1_i h
  rotate_left
  · cases h
    rw [hQ]
    exact x_out C0 hAe hno hlk hP hD hS [13, 14, 15, 16, 17] rfl rfl rfl (rV (As := [.int 1]) (rest := [.int r_1, .ref (xSk 0)]) C0 hP hD hS hl.1 [13, 14, 15, 16, 17] (c_Pk_sizeAlong_t l hltr D cI cZ cJ xPk H.size gPk qPk 1 E hc_4) k_Pk_sizeAlong m_499 rfl rfl rfl rfl ⟨by decide, by decide⟩ ⟨rfl, rfl⟩ rfl (Nat.le_of_ble_eq_true rfl) d_Cc_match_17 ⟨by decide, by decide⟩) ⟨rfl, rfl⟩
  refine cVi (ws' := (wCc xCc cI cZ xGo xFo xPk xSk xAi xSh xJo gGo gFo gPk qPk gSk gAi gSh gJo)) (As := [.int 1]) (rest := [.int r_1, .ref (xSk 0)]) C0 hP hD hS hl.1 [13, 14, 15, 16, 17] (c_Pk_sizeAlong_r l D cI cZ cJ xPk H.size gPk qPk 1 r_3 hc_4) k_Pk_sizeAlong m_499 rfl rfl rfl rfl rfl (rp_same rfl) ⟨by decide, by decide⟩ ⟨rfl, rfl⟩ rfl (Nat.le_of_ble_eq_true rfl) d_Cc_match_17 ⟨Nat.zero_le _, Nat.zero_le _⟩ (fun H locs hP hD hS => ?_)
  refine lv_aload_n hx hb d_Cc_match_20 rfl (lv_at hl 0 rfl) ?_
  refine va_get (ci := 7) (v := .ref (xPk 0)) (C := R_Cc) (T := F_Cc) (N := 7) hx hb hts i_Cc hown hK hP 0 rfl rfl 2 (by decide) (hts _ m_208) (fun _ h9 => h9) rfl d_Cc_match_21 ?_
  refine lv_iconst (v := 2) hx hb d_Cc_match_24 (by decide) ?_
  obtain ⟨r_5, hc_6, h⟩ | ⟨E9, hc_6, h⟩ := xc1_i h
  rotate_left
  · cases h
    rw [hQ]
    exact x_out C0 hAe hno hlk hP hD hS [13, 14, 15, 16, 17] rfl rfl rfl (rV (As := [.int 2]) (rest := [.int r_3, .int r_1, .ref (xSk 0)]) C0 hP hD hS hl.1 [13, 14, 15, 16, 17] (c_Pk_sizeAlong_t l hltr D cI cZ cJ xPk H.size gPk qPk 2 E hc_6) k_Pk_sizeAlong m_499 rfl rfl rfl rfl ⟨by decide, by decide⟩ ⟨rfl, rfl⟩ rfl (Nat.le_of_ble_eq_true rfl) d_Cc_match_25 ⟨by decide, by decide⟩) ⟨rfl, rfl⟩
  refine cVi (ws' := (wCc xCc cI cZ xGo xFo xPk xSk xAi xSh xJo gGo gFo gPk qPk gSk gAi gSh gJo)) (As := [.int 2]) (rest := [.int r_3, .int r_1, .ref (xSk 0)]) C0 hP hD hS hl.1 [13, 14, 15, 16, 17] (c_Pk_sizeAlong_r l D cI cZ cJ xPk H.size gPk qPk 2 r_5 hc_6) k_Pk_sizeAlong m_499 rfl rfl rfl rfl rfl (rp_same rfl) ⟨by decide, by decide⟩ ⟨rfl, rfl⟩ rfl (Nat.le_of_ble_eq_true rfl) d_Cc_match_25 ⟨Nat.zero_le _, Nat.zero_le _⟩ (fun H locs hP hD hS => ?_)
  obtain ⟨r_7, gSk_8, hc_9, h⟩ := xv2_i h
  refine cVi (ws' := (wCc xCc cI cZ xGo xFo xPk xSk xAi xSh xJo gGo gFo gPk qPk gSk_8 gAi gSh gJo)) (As := [.int r_1, .int r_3, .int r_5]) (rest := []) C0 hP hD hS hl.1 [18, 19, 20, 21, 22] (c_Sk_takeFor_r l D cI cZ cJ xSk H.size gSk r_1 r_3 r_5 r_7 gSk_8 hc_9) k_Sk_takeFor m_544 rfl rfl rfl rfl rfl rfl ⟨by decide, by decide⟩ ⟨rfl, rfl⟩ rfl (Nat.le_of_ble_eq_true rfl) d_Cc_match_28 ⟨Nat.zero_le _, Nat.zero_le _⟩ (fun H locs hP hD hS => ?_)
  cases h
abbrev rm_Cc_free_r : Room := { frames := 2, cells := 0, slots := 0, locals := 43 }
set_option maxRecDepth 100000 in
set_option maxHeartbeats 4000000 in
theorem c_Cc_free_r (l : Launch) (D : va_G) (cI cZ cJ : ClassId) (xCc : Nat) (xGo : Nat → Nat) (xFo : Nat → Nat) (xPk : Nat → Nat) (xSk : Nat → Nat) (xAi : Nat → Nat) (xSh : Nat → Nat) (xJo : Nat → Nat) (sz : Nat) (gGo : St) (gFo : St) (gPk : St) (qPk : Int64) (gSk : St) (gAi : St) (gSh : St) (gJo : St) (p1 : Int32) (r : Int32) (gSk1 : St) (h : f_Cc_free gGo gFo gPk qPk gSk gAi gSh gJo p1 = some (.inl (r, gSk1))) : MI l y_Cc_free b_Cc_free 2 (some .boolean) rm_Cc_free_r D (TYS cI cZ cJ) [.ref xCc, .int p1] (wCc xCc cI cZ xGo xFo xPk xSk xAi xSh xJo gGo gFo gPk qPk gSk gAi gSh gJo) sz r (wCc xCc cI cZ xGo xFo xPk xSk xAi xSh xJo gGo gFo gPk qPk gSk1 gAi gSh gJo) := by
  refine mi_start (own := R_Cc) (by decide +kernel) rfl (Nat.le_of_ble_eq_true rfl) (fun p e s m args below meth c A ls C0 hr hlk hP hD hS hl => ?_)
  obtain ⟨Q, hQ⟩ : ∃ Q, Q = QI below D (TYS cI cZ cJ) A (wCc xCc cI cZ xGo xFo xPk xSk xAi xSh xJo gGo gFo gPk qPk gSk1 gAi gSh gJo) r args s := ⟨_, rfl⟩
  rw [← hQ]
  obtain ⟨hx, hb, -, hown, hts, hK, hE, -⟩ := id C0
  have hl : lv_has ls 2 [(0, .ref xCc), (1, .int p1)] := hl
  obtain ⟨H, hH⟩ : ∃ H, H = s.heap := ⟨_, rfl⟩
  have hP : va_P D vwCl (wCc xCc cI cZ xGo xFo xPk xSk xAi xSh xJo gGo gFo gPk qPk gSk gAi gSh gJo) H := by rw [hH]; exact hP
  have hS : va_S A s.heap H [] := by rw [hH]; exact hS
  rw [show W p l e rm_Cc_free_r s m args below meth c s.heap = W p l e rm_Cc_free_r s m args below meth c H by rw [hH]]
  generalize ([] : List Loc) = locs at hS ⊢
  unfold f_Cc_free at h
  refine lv_aload_n hx hb d_Cc_free_0 rfl (lv_at hl 0 rfl) ?_
  refine va_get (ci := 7) (v := .ref (xSk 0)) (C := R_Cc) (T := F_Cc) (N := 7) hx hb hts i_Cc hown hK hP 0 rfl rfl 3 (by decide) (hts _ m_209) (fun _ h9 => h9) rfl d_Cc_free_1 ?_
  refine lv_iload_n hx hb d_Cc_free_4 rfl (lv_at hl 1 rfl) ?_
  obtain ⟨r_1, gSk_2, hc_3, h⟩ | ⟨E9, hc_3, h⟩ := xc2_i h
  rotate_left
  · cases h
  refine cVi (ws' := (wCc xCc cI cZ xGo xFo xPk xSk xAi xSh xJo gGo gFo gPk qPk gSk_2 gAi gSh gJo)) (As := [.int p1]) (rest := []) C0 hP hD hS hl.1 [18, 19, 20, 21, 22] (c_Sk_release_r l D cI cZ cJ xSk H.size gSk p1 r_1 gSk_2 hc_3) k_Sk_release m_560 rfl rfl rfl rfl rfl rfl ⟨by decide, by decide⟩ ⟨rfl, rfl⟩ rfl (Nat.le_of_ble_eq_true rfl) d_Cc_free_5 ⟨Nat.zero_le _, Nat.zero_le _⟩ (fun H locs hP hD hS => ?_)
  obtain ⟨hz_4, h⟩ := gb_i h
  cases h
  rw [hQ]
  exact mi_ret C0 hr (isb_n hz_4) hlk hP hD hS d_Cc_free_8
abbrev rm_Cc_free_t : Room := { frames := 8, cells := 1, slots := 6, locals := 125 }
set_option maxRecDepth 100000 in
set_option maxHeartbeats 4000000 in
theorem c_Cc_free_t (l : Launch) (hltr : l.stackTraces = false) (D : va_G) (cI cZ cJ : ClassId) (xCc : Nat) (xGo : Nat → Nat) (xFo : Nat → Nat) (xPk : Nat → Nat) (xSk : Nat → Nat) (xAi : Nat → Nat) (xSh : Nat → Nat) (xJo : Nat → Nat) (sz : Nat) (gGo : St) (gFo : St) (gPk : St) (qPk : Int64) (gSk : St) (gAi : St) (gSh : St) (gJo : St) (p1 : Int32) (E : String) (h : f_Cc_free gGo gFo gPk qPk gSk gAi gSh gJo p1 = some (.inr E)) : MT l y_Cc_free b_Cc_free 2 (some .boolean) rm_Cc_free_t D (TYS cI cZ cJ) [.ref xCc, .int p1] (wCc xCc cI cZ xGo xFo xPk xSk xAi xSh xJo gGo gFo gPk qPk gSk gAi gSh gJo) sz E := by
  refine mt_start (own := R_Cc) (by decide +kernel) rfl (Nat.le_of_ble_eq_true rfl) (fun p e s m args below meth c A ls C0 hAe hno hlk hP hD hS hl => ?_)
  obtain ⟨Q, hQ⟩ : ∃ Q, Q = QT below D (TYS cI cZ cJ) (wCc xCc cI cZ xGo xFo xPk xSk xAi xSh xJo gGo gFo gPk qPk gSk gAi gSh gJo) E args s := ⟨_, rfl⟩
  rw [← hQ]
  obtain ⟨hx, hb, -, hown, hts, hK, hE, -⟩ := id C0
  have hl : lv_has ls 2 [(0, .ref xCc), (1, .int p1)] := hl
  obtain ⟨H, hH⟩ : ∃ H, H = s.heap := ⟨_, rfl⟩
  have hP : va_P D vwCl (wCc xCc cI cZ xGo xFo xPk xSk xAi xSh xJo gGo gFo gPk qPk gSk gAi gSh gJo) H := by rw [hH]; exact hP
  have hS : va_S A s.heap H [] := by rw [hH]; exact hS
  rw [show W p l e rm_Cc_free_t s m args below meth c s.heap = W p l e rm_Cc_free_t s m args below meth c H by rw [hH]]
  generalize ([] : List Loc) = locs at hS ⊢
  unfold f_Cc_free at h
  refine lv_aload_n hx hb d_Cc_free_0 rfl (lv_at hl 0 rfl) ?_
  refine va_get (ci := 7) (v := .ref (xSk 0)) (C := R_Cc) (T := F_Cc) (N := 7) hx hb hts i_Cc hown hK hP 0 rfl rfl 3 (by decide) (hts _ m_209) (fun _ h9 => h9) rfl d_Cc_free_1 ?_
  refine lv_iload_n hx hb d_Cc_free_4 rfl (lv_at hl 1 rfl) ?_
  obtain ⟨r_1, gSk_2, hc_3, h⟩ | ⟨E9, hc_3, h⟩ := xc2_i h
  rotate_left
  · cases h
    rw [hQ]
    exact x_out C0 hAe hno hlk hP hD hS [18, 19, 20, 21, 22] rfl rfl rfl (rV (As := [.int p1]) (rest := []) C0 hP hD hS hl.1 [18, 19, 20, 21, 22] (c_Sk_release_t l hltr D cI cZ cJ xSk H.size gSk p1 E hc_3) k_Sk_release m_560 rfl rfl rfl rfl ⟨by decide, by decide⟩ ⟨rfl, rfl⟩ rfl (Nat.le_of_ble_eq_true rfl) d_Cc_free_5 ⟨by decide, by decide⟩) ⟨rfl, rfl⟩
  refine cVi (ws' := (wCc xCc cI cZ xGo xFo xPk xSk xAi xSh xJo gGo gFo gPk qPk gSk_2 gAi gSh gJo)) (As := [.int p1]) (rest := []) C0 hP hD hS hl.1 [18, 19, 20, 21, 22] (c_Sk_release_r l D cI cZ cJ xSk H.size gSk p1 r_1 gSk_2 hc_3) k_Sk_release m_560 rfl rfl rfl rfl rfl rfl ⟨by decide, by decide⟩ ⟨rfl, rfl⟩ rfl (Nat.le_of_ble_eq_true rfl) d_Cc_free_5 ⟨Nat.zero_le _, Nat.zero_le _⟩ (fun H locs hP hD hS => ?_)
  obtain ⟨hz_4, h⟩ := gb_i h
  cases h
abbrev rm_Cc_split_r : Room := { frames := 2, cells := 0, slots := 0, locals := 52 }
set_option maxRecDepth 100000 in
set_option maxHeartbeats 4000000 in
theorem c_Cc_split_r (l : Launch) (D : va_G) (cI cZ cJ : ClassId) (xCc : Nat) (xGo : Nat → Nat) (xFo : Nat → Nat) (xPk : Nat → Nat) (xSk : Nat → Nat) (xAi : Nat → Nat) (xSh : Nat → Nat) (xJo : Nat → Nat) (sz : Nat) (gGo : St) (gFo : St) (gPk : St) (qPk : Int64) (gSk : St) (gAi : St) (gSh : St) (gJo : St) (p1 : Int32) (r : Int32) (gGo1 : St) (h : f_Cc_split gGo gFo gPk qPk gSk gAi gSh gJo p1 = some (.inl (r, gGo1))) : MI l y_Cc_split b_Cc_split 2 (some .int) rm_Cc_split_r D (TYS cI cZ cJ) [.ref xCc, .int p1] (wCc xCc cI cZ xGo xFo xPk xSk xAi xSh xJo gGo gFo gPk qPk gSk gAi gSh gJo) sz r (wCc xCc cI cZ xGo xFo xPk xSk xAi xSh xJo gGo1 gFo gPk qPk gSk gAi gSh gJo) := by
  refine mi_start (own := R_Cc) (by decide +kernel) rfl (Nat.le_of_ble_eq_true rfl) (fun p e s m args below meth c A ls C0 hr hlk hP hD hS hl => ?_)
  obtain ⟨Q, hQ⟩ : ∃ Q, Q = QI below D (TYS cI cZ cJ) A (wCc xCc cI cZ xGo xFo xPk xSk xAi xSh xJo gGo1 gFo gPk qPk gSk gAi gSh gJo) r args s := ⟨_, rfl⟩
  rw [← hQ]
  obtain ⟨hx, hb, -, hown, hts, hK, hE, -⟩ := id C0
  have hl : lv_has ls 2 [(0, .ref xCc), (1, .int p1)] := hl
  obtain ⟨H, hH⟩ : ∃ H, H = s.heap := ⟨_, rfl⟩
  have hP : va_P D vwCl (wCc xCc cI cZ xGo xFo xPk xSk xAi xSh xJo gGo gFo gPk qPk gSk gAi gSh gJo) H := by rw [hH]; exact hP
  have hS : va_S A s.heap H [] := by rw [hH]; exact hS
  rw [show W p l e rm_Cc_split_r s m args below meth c s.heap = W p l e rm_Cc_split_r s m args below meth c H by rw [hH]]
  generalize ([] : List Loc) = locs at hS ⊢
  unfold f_Cc_split at h
  refine lv_aload_n hx hb d_Cc_split_0 rfl (lv_at hl 0 rfl) ?_
  refine va_get (ci := 7) (v := .ref (xGo 0)) (C := R_Cc) (T := F_Cc) (N := 7) hx hb hts i_Cc hown hK hP 0 rfl rfl 0 (by decide) (hts _ m_206) (fun _ h9 => h9) rfl d_Cc_split_1 ?_
  refine lv_iload_n hx hb d_Cc_split_4 rfl (lv_at hl 1 rfl) ?_
  obtain ⟨r_1, gGo_2, hc_3, h⟩ | ⟨E9, hc_3, h⟩ := xc2_i h
  rotate_left
  · cases h
  refine cVi (ws' := (wCc xCc cI cZ xGo xFo xPk xSk xAi xSh xJo gGo_2 gFo gPk qPk gSk gAi gSh gJo)) (As := [.int p1]) (rest := []) C0 hP hD hS hl.1 [1, 2, 3, 4, 5, 6] (c_Go_leastCrates_r l D cI cZ cJ xGo H.size gGo p1 r_1 gGo_2 hc_3) k_Go_leastCrates m_572 rfl rfl rfl rfl rfl rfl ⟨by decide, by decide⟩ ⟨rfl, rfl⟩ rfl (Nat.le_of_ble_eq_true rfl) d_Cc_split_5 ⟨Nat.zero_le _, Nat.zero_le _⟩ (fun H locs hP hD hS => ?_)
  cases h
  rw [hQ]
  exact mi_ret C0 hr rfl hlk hP hD hS d_Cc_split_8
abbrev rm_Cc_split_t : Room := { frames := 7, cells := 1, slots := 6, locals := 105 }
set_option maxRecDepth 100000 in
set_option maxHeartbeats 4000000 in
theorem c_Cc_split_t (l : Launch) (hltr : l.stackTraces = false) (D : va_G) (cI cZ cJ : ClassId) (xCc : Nat) (xGo : Nat → Nat) (xFo : Nat → Nat) (xPk : Nat → Nat) (xSk : Nat → Nat) (xAi : Nat → Nat) (xSh : Nat → Nat) (xJo : Nat → Nat) (sz : Nat) (gGo : St) (gFo : St) (gPk : St) (qPk : Int64) (gSk : St) (gAi : St) (gSh : St) (gJo : St) (p1 : Int32) (E : String) (h : f_Cc_split gGo gFo gPk qPk gSk gAi gSh gJo p1 = some (.inr E)) : MT l y_Cc_split b_Cc_split 2 (some .int) rm_Cc_split_t D (TYS cI cZ cJ) [.ref xCc, .int p1] (wCc xCc cI cZ xGo xFo xPk xSk xAi xSh xJo gGo gFo gPk qPk gSk gAi gSh gJo) sz E := by
  refine mt_start (own := R_Cc) (by decide +kernel) rfl (Nat.le_of_ble_eq_true rfl) (fun p e s m args below meth c A ls C0 hAe hno hlk hP hD hS hl => ?_)
  obtain ⟨Q, hQ⟩ : ∃ Q, Q = QT below D (TYS cI cZ cJ) (wCc xCc cI cZ xGo xFo xPk xSk xAi xSh xJo gGo gFo gPk qPk gSk gAi gSh gJo) E args s := ⟨_, rfl⟩
  rw [← hQ]
  obtain ⟨hx, hb, -, hown, hts, hK, hE, -⟩ := id C0
  have hl : lv_has ls 2 [(0, .ref xCc), (1, .int p1)] := hl
  obtain ⟨H, hH⟩ : ∃ H, H = s.heap := ⟨_, rfl⟩
  have hP : va_P D vwCl (wCc xCc cI cZ xGo xFo xPk xSk xAi xSh xJo gGo gFo gPk qPk gSk gAi gSh gJo) H := by rw [hH]; exact hP
  have hS : va_S A s.heap H [] := by rw [hH]; exact hS
  rw [show W p l e rm_Cc_split_t s m args below meth c s.heap = W p l e rm_Cc_split_t s m args below meth c H by rw [hH]]
  generalize ([] : List Loc) = locs at hS ⊢
  unfold f_Cc_split at h
  refine lv_aload_n hx hb d_Cc_split_0 rfl (lv_at hl 0 rfl) ?_
  refine va_get (ci := 7) (v := .ref (xGo 0)) (C := R_Cc) (T := F_Cc) (N := 7) hx hb hts i_Cc hown hK hP 0 rfl rfl 0 (by decide) (hts _ m_206) (fun _ h9 => h9) rfl d_Cc_split_1 ?_
  refine lv_iload_n hx hb d_Cc_split_4 rfl (lv_at hl 1 rfl) ?_
  obtain ⟨r_1, gGo_2, hc_3, h⟩ | ⟨E9, hc_3, h⟩ := xc2_i h
  rotate_left
  · cases h
    rw [hQ]
    exact x_out C0 hAe hno hlk hP hD hS [1, 2, 3, 4, 5, 6] rfl rfl rfl (rV (As := [.int p1]) (rest := []) C0 hP hD hS hl.1 [1, 2, 3, 4, 5, 6] (c_Go_leastCrates_t l hltr D cI cZ cJ xGo H.size gGo p1 E hc_3) k_Go_leastCrates m_572 rfl rfl rfl rfl ⟨by decide, by decide⟩ ⟨rfl, rfl⟩ rfl (Nat.le_of_ble_eq_true rfl) d_Cc_split_5 ⟨by decide, by decide⟩) ⟨rfl, rfl⟩
  refine cVi (ws' := (wCc xCc cI cZ xGo xFo xPk xSk xAi xSh xJo gGo_2 gFo gPk qPk gSk gAi gSh gJo)) (As := [.int p1]) (rest := []) C0 hP hD hS hl.1 [1, 2, 3, 4, 5, 6] (c_Go_leastCrates_r l D cI cZ cJ xGo H.size gGo p1 r_1 gGo_2 hc_3) k_Go_leastCrates m_572 rfl rfl rfl rfl rfl rfl ⟨by decide, by decide⟩ ⟨rfl, rfl⟩ rfl (Nat.le_of_ble_eq_true rfl) d_Cc_split_5 ⟨Nat.zero_le _, Nat.zero_le _⟩ (fun H locs hP hD hS => ?_)
  cases h
abbrev rm_Cc_lag_r : Room := { frames := 2, cells := 0, slots := 0, locals := 44 }
set_option maxRecDepth 100000 in
set_option maxHeartbeats 4000000 in
theorem c_Cc_lag_r (l : Launch) (D : va_G) (cI cZ cJ : ClassId) (xCc : Nat) (xGo : Nat → Nat) (xFo : Nat → Nat) (xPk : Nat → Nat) (xSk : Nat → Nat) (xAi : Nat → Nat) (xSh : Nat → Nat) (xJo : Nat → Nat) (sz : Nat) (gGo : St) (gFo : St) (gPk : St) (qPk : Int64) (gSk : St) (gAi : St) (gSh : St) (gJo : St) (p1 : Int32) (r : Int32) (gAi1 : St) (h : f_Cc_lag gGo gFo gPk qPk gSk gAi gSh gJo p1 = some (.inl (r, gAi1))) : MI l y_Cc_lag b_Cc_lag 2 (some .int) rm_Cc_lag_r D (TYS cI cZ cJ) [.ref xCc, .int p1] (wCc xCc cI cZ xGo xFo xPk xSk xAi xSh xJo gGo gFo gPk qPk gSk gAi gSh gJo) sz r (wCc xCc cI cZ xGo xFo xPk xSk xAi xSh xJo gGo gFo gPk qPk gSk gAi1 gSh gJo) := by
  refine mi_start (own := R_Cc) (by decide +kernel) rfl (Nat.le_of_ble_eq_true rfl) (fun p e s m args below meth c A ls C0 hr hlk hP hD hS hl => ?_)
  obtain ⟨Q, hQ⟩ : ∃ Q, Q = QI below D (TYS cI cZ cJ) A (wCc xCc cI cZ xGo xFo xPk xSk xAi xSh xJo gGo gFo gPk qPk gSk gAi1 gSh gJo) r args s := ⟨_, rfl⟩
  rw [← hQ]
  obtain ⟨hx, hb, -, hown, hts, hK, hE, -⟩ := id C0
  have hl : lv_has ls 2 [(0, .ref xCc), (1, .int p1)] := hl
  obtain ⟨H, hH⟩ : ∃ H, H = s.heap := ⟨_, rfl⟩
  have hP : va_P D vwCl (wCc xCc cI cZ xGo xFo xPk xSk xAi xSh xJo gGo gFo gPk qPk gSk gAi gSh gJo) H := by rw [hH]; exact hP
  have hS : va_S A s.heap H [] := by rw [hH]; exact hS
  rw [show W p l e rm_Cc_lag_r s m args below meth c s.heap = W p l e rm_Cc_lag_r s m args below meth c H by rw [hH]]
  generalize ([] : List Loc) = locs at hS ⊢
  unfold f_Cc_lag at h
  refine lv_aload_n hx hb d_Cc_lag_0 rfl (lv_at hl 0 rfl) ?_
  refine va_get (ci := 7) (v := .ref (xAi 0)) (C := R_Cc) (T := F_Cc) (N := 7) hx hb hts i_Cc hown hK hP 0 rfl rfl 4 (by decide) (hts _ m_210) (fun _ h9 => h9) rfl d_Cc_lag_1 ?_
  refine lv_iload_n hx hb d_Cc_lag_4 rfl (lv_at hl 1 rfl) ?_
  obtain ⟨r_1, gAi_2, hc_3, h⟩ | ⟨E9, hc_3, h⟩ := xc2_i h
  rotate_left
  · cases h
  refine cVi (ws' := (wCc xCc cI cZ xGo xFo xPk xSk xAi xSh xJo gGo gFo gPk qPk gSk gAi_2 gSh gJo)) (As := [.int p1]) (rest := []) C0 hP hD hS hl.1 [23, 24] (c_Ai_setLag_r l D cI cZ cJ xAi H.size gAi p1 r_1 gAi_2 hc_3) k_Ai_setLag m_590 rfl rfl rfl rfl rfl rfl ⟨by decide, by decide⟩ ⟨rfl, rfl⟩ rfl (Nat.le_of_ble_eq_true rfl) d_Cc_lag_5 ⟨Nat.zero_le _, Nat.zero_le _⟩ (fun H locs hP hD hS => ?_)
  cases h
  rw [hQ]
  exact mi_ret C0 hr rfl hlk hP hD hS d_Cc_lag_8
abbrev rm_Cc_lag_t : Room := { frames := 8, cells := 1, slots := 6, locals := 126 }
set_option maxRecDepth 100000 in
set_option maxHeartbeats 4000000 in
theorem c_Cc_lag_t (l : Launch) (hltr : l.stackTraces = false) (D : va_G) (cI cZ cJ : ClassId) (xCc : Nat) (xGo : Nat → Nat) (xFo : Nat → Nat) (xPk : Nat → Nat) (xSk : Nat → Nat) (xAi : Nat → Nat) (xSh : Nat → Nat) (xJo : Nat → Nat) (sz : Nat) (gGo : St) (gFo : St) (gPk : St) (qPk : Int64) (gSk : St) (gAi : St) (gSh : St) (gJo : St) (p1 : Int32) (E : String) (h : f_Cc_lag gGo gFo gPk qPk gSk gAi gSh gJo p1 = some (.inr E)) : MT l y_Cc_lag b_Cc_lag 2 (some .int) rm_Cc_lag_t D (TYS cI cZ cJ) [.ref xCc, .int p1] (wCc xCc cI cZ xGo xFo xPk xSk xAi xSh xJo gGo gFo gPk qPk gSk gAi gSh gJo) sz E := by
  refine mt_start (own := R_Cc) (by decide +kernel) rfl (Nat.le_of_ble_eq_true rfl) (fun p e s m args below meth c A ls C0 hAe hno hlk hP hD hS hl => ?_)
  obtain ⟨Q, hQ⟩ : ∃ Q, Q = QT below D (TYS cI cZ cJ) (wCc xCc cI cZ xGo xFo xPk xSk xAi xSh xJo gGo gFo gPk qPk gSk gAi gSh gJo) E args s := ⟨_, rfl⟩
  rw [← hQ]
  obtain ⟨hx, hb, -, hown, hts, hK, hE, -⟩ := id C0
  have hl : lv_has ls 2 [(0, .ref xCc), (1, .int p1)] := hl
  obtain ⟨H, hH⟩ : ∃ H, H = s.heap := ⟨_, rfl⟩
  have hP : va_P D vwCl (wCc xCc cI cZ xGo xFo xPk xSk xAi xSh xJo gGo gFo gPk qPk gSk gAi gSh gJo) H := by rw [hH]; exact hP
  have hS : va_S A s.heap H [] := by rw [hH]; exact hS
  rw [show W p l e rm_Cc_lag_t s m args below meth c s.heap = W p l e rm_Cc_lag_t s m args below meth c H by rw [hH]]
  generalize ([] : List Loc) = locs at hS ⊢
  unfold f_Cc_lag at h
  refine lv_aload_n hx hb d_Cc_lag_0 rfl (lv_at hl 0 rfl) ?_
  refine va_get (ci := 7) (v := .ref (xAi 0)) (C := R_Cc) (T := F_Cc) (N := 7) hx hb hts i_Cc hown hK hP 0 rfl rfl 4 (by decide) (hts _ m_210) (fun _ h9 => h9) rfl d_Cc_lag_1 ?_
  refine lv_iload_n hx hb d_Cc_lag_4 rfl (lv_at hl 1 rfl) ?_
  obtain ⟨r_1, gAi_2, hc_3, h⟩ | ⟨E9, hc_3, h⟩ := xc2_i h
  rotate_left
  · cases h
    rw [hQ]
    exact x_out C0 hAe hno hlk hP hD hS [23, 24] rfl rfl rfl (rV (As := [.int p1]) (rest := []) C0 hP hD hS hl.1 [23, 24] (c_Ai_setLag_t l hltr D cI cZ cJ xAi H.size gAi p1 E hc_3) k_Ai_setLag m_590 rfl rfl rfl rfl ⟨by decide, by decide⟩ ⟨rfl, rfl⟩ rfl (Nat.le_of_ble_eq_true rfl) d_Cc_lag_5 ⟨by decide, by decide⟩) ⟨rfl, rfl⟩
  refine cVi (ws' := (wCc xCc cI cZ xGo xFo xPk xSk xAi xSh xJo gGo gFo gPk qPk gSk gAi_2 gSh gJo)) (As := [.int p1]) (rest := []) C0 hP hD hS hl.1 [23, 24] (c_Ai_setLag_r l D cI cZ cJ xAi H.size gAi p1 r_1 gAi_2 hc_3) k_Ai_setLag m_590 rfl rfl rfl rfl rfl rfl ⟨by decide, by decide⟩ ⟨rfl, rfl⟩ rfl (Nat.le_of_ble_eq_true rfl) d_Cc_lag_5 ⟨Nat.zero_le _, Nat.zero_le _⟩ (fun H locs hP hD hS => ?_)
  cases h
abbrev rm_Cc_climate_r : Room := { frames := 2, cells := 0, slots := 0, locals := 45 }
set_option maxRecDepth 100000 in
set_option maxHeartbeats 4000000 in
theorem c_Cc_climate_r (l : Launch) (D : va_G) (cI cZ cJ : ClassId) (xCc : Nat) (xGo : Nat → Nat) (xFo : Nat → Nat) (xPk : Nat → Nat) (xSk : Nat → Nat) (xAi : Nat → Nat) (xSh : Nat → Nat) (xJo : Nat → Nat) (sz : Nat) (gGo : St) (gFo : St) (gPk : St) (qPk : Int64) (gSk : St) (gAi : St) (gSh : St) (gJo : St) (p1 : Int32) (r : Int32) (gAi1 : St) (h : f_Cc_climate gGo gFo gPk qPk gSk gAi gSh gJo p1 = some (.inl (r, gAi1))) : MI l y_Cc_climate b_Cc_climate 2 (some .int) rm_Cc_climate_r D (TYS cI cZ cJ) [.ref xCc, .int p1] (wCc xCc cI cZ xGo xFo xPk xSk xAi xSh xJo gGo gFo gPk qPk gSk gAi gSh gJo) sz r (wCc xCc cI cZ xGo xFo xPk xSk xAi xSh xJo gGo gFo gPk qPk gSk gAi1 gSh gJo) := by
  refine mi_start (own := R_Cc) (by decide +kernel) rfl (Nat.le_of_ble_eq_true rfl) (fun p e s m args below meth c A ls C0 hr hlk hP hD hS hl => ?_)
  obtain ⟨Q, hQ⟩ : ∃ Q, Q = QI below D (TYS cI cZ cJ) A (wCc xCc cI cZ xGo xFo xPk xSk xAi xSh xJo gGo gFo gPk qPk gSk gAi1 gSh gJo) r args s := ⟨_, rfl⟩
  rw [← hQ]
  obtain ⟨hx, hb, -, hown, hts, hK, hE, -⟩ := id C0
  have hl : lv_has ls 2 [(0, .ref xCc), (1, .int p1)] := hl
  obtain ⟨H, hH⟩ : ∃ H, H = s.heap := ⟨_, rfl⟩
  have hP : va_P D vwCl (wCc xCc cI cZ xGo xFo xPk xSk xAi xSh xJo gGo gFo gPk qPk gSk gAi gSh gJo) H := by rw [hH]; exact hP
  have hS : va_S A s.heap H [] := by rw [hH]; exact hS
  rw [show W p l e rm_Cc_climate_r s m args below meth c s.heap = W p l e rm_Cc_climate_r s m args below meth c H by rw [hH]]
  generalize ([] : List Loc) = locs at hS ⊢
  unfold f_Cc_climate at h
  refine lv_aload_n hx hb d_Cc_climate_0 rfl (lv_at hl 0 rfl) ?_
  refine va_get (ci := 7) (v := .ref (xAi 0)) (C := R_Cc) (T := F_Cc) (N := 7) hx hb hts i_Cc hown hK hP 0 rfl rfl 4 (by decide) (hts _ m_210) (fun _ h9 => h9) rfl d_Cc_climate_1 ?_
  refine lv_iload_n hx hb d_Cc_climate_4 rfl (lv_at hl 1 rfl) ?_
  obtain ⟨r_1, gAi_2, hc_3, h⟩ | ⟨E9, hc_3, h⟩ := xc2_i h
  rotate_left
  · cases h
  refine cVi (ws' := (wCc xCc cI cZ xGo xFo xPk xSk xAi xSh xJo gGo gFo gPk qPk gSk gAi_2 gSh gJo)) (As := [.int p1]) (rest := []) C0 hP hD hS hl.1 [23, 24] (c_Ai_nextHour_r l D cI cZ cJ xAi H.size gAi p1 r_1 gAi_2 hc_3) k_Ai_nextHour m_602 rfl rfl rfl rfl rfl rfl ⟨by decide, by decide⟩ ⟨rfl, rfl⟩ rfl (Nat.le_of_ble_eq_true rfl) d_Cc_climate_5 ⟨Nat.zero_le _, Nat.zero_le _⟩ (fun H locs hP hD hS => ?_)
  cases h
  rw [hQ]
  exact mi_ret C0 hr rfl hlk hP hD hS d_Cc_climate_8
abbrev rm_Cc_climate_t : Room := { frames := 8, cells := 1, slots := 6, locals := 127 }
set_option maxRecDepth 100000 in
set_option maxHeartbeats 4000000 in
theorem c_Cc_climate_t (l : Launch) (hltr : l.stackTraces = false) (D : va_G) (cI cZ cJ : ClassId) (xCc : Nat) (xGo : Nat → Nat) (xFo : Nat → Nat) (xPk : Nat → Nat) (xSk : Nat → Nat) (xAi : Nat → Nat) (xSh : Nat → Nat) (xJo : Nat → Nat) (sz : Nat) (gGo : St) (gFo : St) (gPk : St) (qPk : Int64) (gSk : St) (gAi : St) (gSh : St) (gJo : St) (p1 : Int32) (E : String) (h : f_Cc_climate gGo gFo gPk qPk gSk gAi gSh gJo p1 = some (.inr E)) : MT l y_Cc_climate b_Cc_climate 2 (some .int) rm_Cc_climate_t D (TYS cI cZ cJ) [.ref xCc, .int p1] (wCc xCc cI cZ xGo xFo xPk xSk xAi xSh xJo gGo gFo gPk qPk gSk gAi gSh gJo) sz E := by
  refine mt_start (own := R_Cc) (by decide +kernel) rfl (Nat.le_of_ble_eq_true rfl) (fun p e s m args below meth c A ls C0 hAe hno hlk hP hD hS hl => ?_)
  obtain ⟨Q, hQ⟩ : ∃ Q, Q = QT below D (TYS cI cZ cJ) (wCc xCc cI cZ xGo xFo xPk xSk xAi xSh xJo gGo gFo gPk qPk gSk gAi gSh gJo) E args s := ⟨_, rfl⟩
  rw [← hQ]
  obtain ⟨hx, hb, -, hown, hts, hK, hE, -⟩ := id C0
  have hl : lv_has ls 2 [(0, .ref xCc), (1, .int p1)] := hl
  obtain ⟨H, hH⟩ : ∃ H, H = s.heap := ⟨_, rfl⟩
  have hP : va_P D vwCl (wCc xCc cI cZ xGo xFo xPk xSk xAi xSh xJo gGo gFo gPk qPk gSk gAi gSh gJo) H := by rw [hH]; exact hP
  have hS : va_S A s.heap H [] := by rw [hH]; exact hS
  rw [show W p l e rm_Cc_climate_t s m args below meth c s.heap = W p l e rm_Cc_climate_t s m args below meth c H by rw [hH]]
  generalize ([] : List Loc) = locs at hS ⊢
  unfold f_Cc_climate at h
  refine lv_aload_n hx hb d_Cc_climate_0 rfl (lv_at hl 0 rfl) ?_
  refine va_get (ci := 7) (v := .ref (xAi 0)) (C := R_Cc) (T := F_Cc) (N := 7) hx hb hts i_Cc hown hK hP 0 rfl rfl 4 (by decide) (hts _ m_210) (fun _ h9 => h9) rfl d_Cc_climate_1 ?_
  refine lv_iload_n hx hb d_Cc_climate_4 rfl (lv_at hl 1 rfl) ?_
  obtain ⟨r_1, gAi_2, hc_3, h⟩ | ⟨E9, hc_3, h⟩ := xc2_i h
  rotate_left
  · cases h
    rw [hQ]
    exact x_out C0 hAe hno hlk hP hD hS [23, 24] rfl rfl rfl (rV (As := [.int p1]) (rest := []) C0 hP hD hS hl.1 [23, 24] (c_Ai_nextHour_t l hltr D cI cZ cJ xAi H.size gAi p1 E hc_3) k_Ai_nextHour m_602 rfl rfl rfl rfl ⟨by decide, by decide⟩ ⟨rfl, rfl⟩ rfl (Nat.le_of_ble_eq_true rfl) d_Cc_climate_5 ⟨by decide, by decide⟩) ⟨rfl, rfl⟩
  refine cVi (ws' := (wCc xCc cI cZ xGo xFo xPk xSk xAi xSh xJo gGo gFo gPk qPk gSk gAi_2 gSh gJo)) (As := [.int p1]) (rest := []) C0 hP hD hS hl.1 [23, 24] (c_Ai_nextHour_r l D cI cZ cJ xAi H.size gAi p1 r_1 gAi_2 hc_3) k_Ai_nextHour m_602 rfl rfl rfl rfl rfl rfl ⟨by decide, by decide⟩ ⟨rfl, rfl⟩ rfl (Nat.le_of_ble_eq_true rfl) d_Cc_climate_5 ⟨Nat.zero_le _, Nat.zero_le _⟩ (fun H locs hP hD hS => ?_)
  cases h
abbrev rm_Cc_inside_r : Room := { frames := 2, cells := 0, slots := 0, locals := 42 }
set_option maxRecDepth 100000 in
set_option maxHeartbeats 4000000 in
theorem c_Cc_inside_r (l : Launch) (D : va_G) (cI cZ cJ : ClassId) (xCc : Nat) (xGo : Nat → Nat) (xFo : Nat → Nat) (xPk : Nat → Nat) (xSk : Nat → Nat) (xAi : Nat → Nat) (xSh : Nat → Nat) (xJo : Nat → Nat) (sz : Nat) (gGo : St) (gFo : St) (gPk : St) (qPk : Int64) (gSk : St) (gAi : St) (gSh : St) (gJo : St) (p1 : Int32) (r : Int32) (h : f_Cc_inside gGo gFo gPk qPk gSk gAi gSh gJo p1 = some (.inl r)) : MI l y_Cc_inside b_Cc_inside 2 (some .int) rm_Cc_inside_r D (TYS cI cZ cJ) [.ref xCc, .int p1] (wCc xCc cI cZ xGo xFo xPk xSk xAi xSh xJo gGo gFo gPk qPk gSk gAi gSh gJo) sz r (wCc xCc cI cZ xGo xFo xPk xSk xAi xSh xJo gGo gFo gPk qPk gSk gAi gSh gJo) := by
  refine mi_start (own := R_Cc) (by decide +kernel) rfl (Nat.le_of_ble_eq_true rfl) (fun p e s m args below meth c A ls C0 hr hlk hP hD hS hl => ?_)
  obtain ⟨Q, hQ⟩ : ∃ Q, Q = QI below D (TYS cI cZ cJ) A (wCc xCc cI cZ xGo xFo xPk xSk xAi xSh xJo gGo gFo gPk qPk gSk gAi gSh gJo) r args s := ⟨_, rfl⟩
  rw [← hQ]
  obtain ⟨hx, hb, -, hown, hts, hK, hE, -⟩ := id C0
  have hl : lv_has ls 2 [(0, .ref xCc), (1, .int p1)] := hl
  obtain ⟨H, hH⟩ : ∃ H, H = s.heap := ⟨_, rfl⟩
  have hP : va_P D vwCl (wCc xCc cI cZ xGo xFo xPk xSk xAi xSh xJo gGo gFo gPk qPk gSk gAi gSh gJo) H := by rw [hH]; exact hP
  have hS : va_S A s.heap H [] := by rw [hH]; exact hS
  rw [show W p l e rm_Cc_inside_r s m args below meth c s.heap = W p l e rm_Cc_inside_r s m args below meth c H by rw [hH]]
  generalize ([] : List Loc) = locs at hS ⊢
  unfold f_Cc_inside at h
  refine lv_aload_n hx hb d_Cc_inside_0 rfl (lv_at hl 0 rfl) ?_
  refine va_get (ci := 7) (v := .ref (xAi 0)) (C := R_Cc) (T := F_Cc) (N := 7) hx hb hts i_Cc hown hK hP 0 rfl rfl 4 (by decide) (hts _ m_210) (fun _ h9 => h9) rfl d_Cc_inside_1 ?_
  refine lv_iload_n hx hb d_Cc_inside_4 rfl (lv_at hl 1 rfl) ?_
  obtain ⟨r_1, hc_2, h⟩ | ⟨E9, hc_2, h⟩ := xc1_i h
  rotate_left
  · cases h
  refine cVi (ws' := (wCc xCc cI cZ xGo xFo xPk xSk xAi xSh xJo gGo gFo gPk qPk gSk gAi gSh gJo)) (As := [.int p1]) (rest := []) C0 hP hD hS hl.1 [23, 24] (c_Ai_afterHour_r l D cI cZ cJ xAi H.size gAi p1 r_1 hc_2) k_Ai_afterHour m_618 rfl rfl rfl rfl rfl (rp_same rfl) ⟨by decide, by decide⟩ ⟨rfl, rfl⟩ rfl (Nat.le_of_ble_eq_true rfl) d_Cc_inside_5 ⟨Nat.zero_le _, Nat.zero_le _⟩ (fun H locs hP hD hS => ?_)
  cases h
  rw [hQ]
  exact mi_ret C0 hr rfl hlk hP hD hS d_Cc_inside_8
abbrev rm_Cc_inside_t : Room := { frames := 8, cells := 1, slots := 6, locals := 124 }
set_option maxRecDepth 100000 in
set_option maxHeartbeats 4000000 in
theorem c_Cc_inside_t (l : Launch) (hltr : l.stackTraces = false) (D : va_G) (cI cZ cJ : ClassId) (xCc : Nat) (xGo : Nat → Nat) (xFo : Nat → Nat) (xPk : Nat → Nat) (xSk : Nat → Nat) (xAi : Nat → Nat) (xSh : Nat → Nat) (xJo : Nat → Nat) (sz : Nat) (gGo : St) (gFo : St) (gPk : St) (qPk : Int64) (gSk : St) (gAi : St) (gSh : St) (gJo : St) (p1 : Int32) (E : String) (h : f_Cc_inside gGo gFo gPk qPk gSk gAi gSh gJo p1 = some (.inr E)) : MT l y_Cc_inside b_Cc_inside 2 (some .int) rm_Cc_inside_t D (TYS cI cZ cJ) [.ref xCc, .int p1] (wCc xCc cI cZ xGo xFo xPk xSk xAi xSh xJo gGo gFo gPk qPk gSk gAi gSh gJo) sz E := by
  refine mt_start (own := R_Cc) (by decide +kernel) rfl (Nat.le_of_ble_eq_true rfl) (fun p e s m args below meth c A ls C0 hAe hno hlk hP hD hS hl => ?_)
  obtain ⟨Q, hQ⟩ : ∃ Q, Q = QT below D (TYS cI cZ cJ) (wCc xCc cI cZ xGo xFo xPk xSk xAi xSh xJo gGo gFo gPk qPk gSk gAi gSh gJo) E args s := ⟨_, rfl⟩
  rw [← hQ]
  obtain ⟨hx, hb, -, hown, hts, hK, hE, -⟩ := id C0
  have hl : lv_has ls 2 [(0, .ref xCc), (1, .int p1)] := hl
  obtain ⟨H, hH⟩ : ∃ H, H = s.heap := ⟨_, rfl⟩
  have hP : va_P D vwCl (wCc xCc cI cZ xGo xFo xPk xSk xAi xSh xJo gGo gFo gPk qPk gSk gAi gSh gJo) H := by rw [hH]; exact hP
  have hS : va_S A s.heap H [] := by rw [hH]; exact hS
  rw [show W p l e rm_Cc_inside_t s m args below meth c s.heap = W p l e rm_Cc_inside_t s m args below meth c H by rw [hH]]
  generalize ([] : List Loc) = locs at hS ⊢
  unfold f_Cc_inside at h
  refine lv_aload_n hx hb d_Cc_inside_0 rfl (lv_at hl 0 rfl) ?_
  refine va_get (ci := 7) (v := .ref (xAi 0)) (C := R_Cc) (T := F_Cc) (N := 7) hx hb hts i_Cc hown hK hP 0 rfl rfl 4 (by decide) (hts _ m_210) (fun _ h9 => h9) rfl d_Cc_inside_1 ?_
  refine lv_iload_n hx hb d_Cc_inside_4 rfl (lv_at hl 1 rfl) ?_
  obtain ⟨r_1, hc_2, h⟩ | ⟨E9, hc_2, h⟩ := xc1_i h
  rotate_left
  · cases h
    rw [hQ]
    exact x_out C0 hAe hno hlk hP hD hS [23, 24] rfl rfl rfl (rV (As := [.int p1]) (rest := []) C0 hP hD hS hl.1 [23, 24] (c_Ai_afterHour_t l hltr D cI cZ cJ xAi H.size gAi p1 E hc_2) k_Ai_afterHour m_618 rfl rfl rfl rfl ⟨by decide, by decide⟩ ⟨rfl, rfl⟩ rfl (Nat.le_of_ble_eq_true rfl) d_Cc_inside_5 ⟨by decide, by decide⟩) ⟨rfl, rfl⟩
  refine cVi (ws' := (wCc xCc cI cZ xGo xFo xPk xSk xAi xSh xJo gGo gFo gPk qPk gSk gAi gSh gJo)) (As := [.int p1]) (rest := []) C0 hP hD hS hl.1 [23, 24] (c_Ai_afterHour_r l D cI cZ cJ xAi H.size gAi p1 r_1 hc_2) k_Ai_afterHour m_618 rfl rfl rfl rfl rfl (rp_same rfl) ⟨by decide, by decide⟩ ⟨rfl, rfl⟩ rfl (Nat.le_of_ble_eq_true rfl) d_Cc_inside_5 ⟨Nat.zero_le _, Nat.zero_le _⟩ (fun H locs hP hD hS => ?_)
  cases h
abbrev rm_Cc_steady_r : Room := { frames := 2, cells := 0, slots := 0, locals := 47 }
set_option maxRecDepth 100000 in
set_option maxHeartbeats 4000000 in
theorem c_Cc_steady_r (l : Launch) (D : va_G) (cI cZ cJ : ClassId) (xCc : Nat) (xGo : Nat → Nat) (xFo : Nat → Nat) (xPk : Nat → Nat) (xSk : Nat → Nat) (xAi : Nat → Nat) (xSh : Nat → Nat) (xJo : Nat → Nat) (sz : Nat) (gGo : St) (gFo : St) (gPk : St) (qPk : Int64) (gSk : St) (gAi : St) (gSh : St) (gJo : St) (p1 : Int32) (p2 : Int32) (r : Int32) (h : f_Cc_steady gGo gFo gPk qPk gSk gAi gSh gJo p1 p2 = some (.inl r)) : MI l y_Cc_steady b_Cc_steady 3 (some .int) rm_Cc_steady_r D (TYS cI cZ cJ) [.ref xCc, .int p1, .int p2] (wCc xCc cI cZ xGo xFo xPk xSk xAi xSh xJo gGo gFo gPk qPk gSk gAi gSh gJo) sz r (wCc xCc cI cZ xGo xFo xPk xSk xAi xSh xJo gGo gFo gPk qPk gSk gAi gSh gJo) := by
  refine mi_start (own := R_Cc) (by decide +kernel) rfl (Nat.le_of_ble_eq_true rfl) (fun p e s m args below meth c A ls C0 hr hlk hP hD hS hl => ?_)
  obtain ⟨Q, hQ⟩ : ∃ Q, Q = QI below D (TYS cI cZ cJ) A (wCc xCc cI cZ xGo xFo xPk xSk xAi xSh xJo gGo gFo gPk qPk gSk gAi gSh gJo) r args s := ⟨_, rfl⟩
  rw [← hQ]
  obtain ⟨hx, hb, -, hown, hts, hK, hE, -⟩ := id C0
  have hl : lv_has ls 3 [(0, .ref xCc), (1, .int p1), (2, .int p2)] := hl
  obtain ⟨H, hH⟩ : ∃ H, H = s.heap := ⟨_, rfl⟩
  have hP : va_P D vwCl (wCc xCc cI cZ xGo xFo xPk xSk xAi xSh xJo gGo gFo gPk qPk gSk gAi gSh gJo) H := by rw [hH]; exact hP
  have hS : va_S A s.heap H [] := by rw [hH]; exact hS
  rw [show W p l e rm_Cc_steady_r s m args below meth c s.heap = W p l e rm_Cc_steady_r s m args below meth c H by rw [hH]]
  generalize ([] : List Loc) = locs at hS ⊢
  unfold f_Cc_steady at h
  refine lv_aload_n hx hb d_Cc_steady_0 rfl (lv_at hl 0 rfl) ?_
  refine va_get (ci := 7) (v := .ref (xAi 0)) (C := R_Cc) (T := F_Cc) (N := 7) hx hb hts i_Cc hown hK hP 0 rfl rfl 4 (by decide) (hts _ m_210) (fun _ h9 => h9) rfl d_Cc_steady_1 ?_
  refine lv_iload_n hx hb d_Cc_steady_4 rfl (lv_at hl 1 rfl) ?_
  refine lv_iload_n hx hb d_Cc_steady_5 rfl (lv_at hl 2 rfl) ?_
  obtain ⟨r_1, hc_2, h⟩ | ⟨E9, hc_2, h⟩ := xc1_i h
  rotate_left
  · cases h
  refine cVi (ws' := (wCc xCc cI cZ xGo xFo xPk xSk xAi xSh xJo gGo gFo gPk qPk gSk gAi gSh gJo)) (As := [.int p1, .int p2]) (rest := []) C0 hP hD hS hl.1 [23, 24] (c_Ai_longestWithin_r l D cI cZ cJ xAi H.size gAi p1 p2 r_1 hc_2) k_Ai_longestWithin m_630 rfl rfl rfl rfl rfl (rp_same rfl) ⟨by decide, by decide⟩ ⟨rfl, rfl⟩ rfl (Nat.le_of_ble_eq_true rfl) d_Cc_steady_6 ⟨Nat.zero_le _, Nat.zero_le _⟩ (fun H locs hP hD hS => ?_)
  cases h
  rw [hQ]
  exact mi_ret C0 hr rfl hlk hP hD hS d_Cc_steady_9
abbrev rm_Cc_steady_t : Room := { frames := 7, cells := 1, slots := 6, locals := 108 }
set_option maxRecDepth 100000 in
set_option maxHeartbeats 4000000 in
theorem c_Cc_steady_t (l : Launch) (hltr : l.stackTraces = false) (D : va_G) (cI cZ cJ : ClassId) (xCc : Nat) (xGo : Nat → Nat) (xFo : Nat → Nat) (xPk : Nat → Nat) (xSk : Nat → Nat) (xAi : Nat → Nat) (xSh : Nat → Nat) (xJo : Nat → Nat) (sz : Nat) (gGo : St) (gFo : St) (gPk : St) (qPk : Int64) (gSk : St) (gAi : St) (gSh : St) (gJo : St) (p1 : Int32) (p2 : Int32) (E : String) (h : f_Cc_steady gGo gFo gPk qPk gSk gAi gSh gJo p1 p2 = some (.inr E)) : MT l y_Cc_steady b_Cc_steady 3 (some .int) rm_Cc_steady_t D (TYS cI cZ cJ) [.ref xCc, .int p1, .int p2] (wCc xCc cI cZ xGo xFo xPk xSk xAi xSh xJo gGo gFo gPk qPk gSk gAi gSh gJo) sz E := by
  refine mt_start (own := R_Cc) (by decide +kernel) rfl (Nat.le_of_ble_eq_true rfl) (fun p e s m args below meth c A ls C0 hAe hno hlk hP hD hS hl => ?_)
  obtain ⟨Q, hQ⟩ : ∃ Q, Q = QT below D (TYS cI cZ cJ) (wCc xCc cI cZ xGo xFo xPk xSk xAi xSh xJo gGo gFo gPk qPk gSk gAi gSh gJo) E args s := ⟨_, rfl⟩
  rw [← hQ]
  obtain ⟨hx, hb, -, hown, hts, hK, hE, -⟩ := id C0
  have hl : lv_has ls 3 [(0, .ref xCc), (1, .int p1), (2, .int p2)] := hl
  obtain ⟨H, hH⟩ : ∃ H, H = s.heap := ⟨_, rfl⟩
  have hP : va_P D vwCl (wCc xCc cI cZ xGo xFo xPk xSk xAi xSh xJo gGo gFo gPk qPk gSk gAi gSh gJo) H := by rw [hH]; exact hP
  have hS : va_S A s.heap H [] := by rw [hH]; exact hS
  rw [show W p l e rm_Cc_steady_t s m args below meth c s.heap = W p l e rm_Cc_steady_t s m args below meth c H by rw [hH]]
  generalize ([] : List Loc) = locs at hS ⊢
  unfold f_Cc_steady at h
  refine lv_aload_n hx hb d_Cc_steady_0 rfl (lv_at hl 0 rfl) ?_
  refine va_get (ci := 7) (v := .ref (xAi 0)) (C := R_Cc) (T := F_Cc) (N := 7) hx hb hts i_Cc hown hK hP 0 rfl rfl 4 (by decide) (hts _ m_210) (fun _ h9 => h9) rfl d_Cc_steady_1 ?_
  refine lv_iload_n hx hb d_Cc_steady_4 rfl (lv_at hl 1 rfl) ?_
  refine lv_iload_n hx hb d_Cc_steady_5 rfl (lv_at hl 2 rfl) ?_
  obtain ⟨r_1, hc_2, h⟩ | ⟨E9, hc_2, h⟩ := xc1_i h
  rotate_left
  · cases h
    rw [hQ]
    exact x_out C0 hAe hno hlk hP hD hS [23, 24] rfl rfl rfl (rV (As := [.int p1, .int p2]) (rest := []) C0 hP hD hS hl.1 [23, 24] (c_Ai_longestWithin_t l hltr D cI cZ cJ xAi H.size gAi p1 p2 E hc_2) k_Ai_longestWithin m_630 rfl rfl rfl rfl ⟨by decide, by decide⟩ ⟨rfl, rfl⟩ rfl (Nat.le_of_ble_eq_true rfl) d_Cc_steady_6 ⟨by decide, by decide⟩) ⟨rfl, rfl⟩
  refine cVi (ws' := (wCc xCc cI cZ xGo xFo xPk xSk xAi xSh xJo gGo gFo gPk qPk gSk gAi gSh gJo)) (As := [.int p1, .int p2]) (rest := []) C0 hP hD hS hl.1 [23, 24] (c_Ai_longestWithin_r l D cI cZ cJ xAi H.size gAi p1 p2 r_1 hc_2) k_Ai_longestWithin m_630 rfl rfl rfl rfl rfl (rp_same rfl) ⟨by decide, by decide⟩ ⟨rfl, rfl⟩ rfl (Nat.le_of_ble_eq_true rfl) d_Cc_steady_6 ⟨Nat.zero_le _, Nat.zero_le _⟩ (fun H locs hP hD hS => ?_)
  cases h
abbrev rm_Cc_limit_r : Room := { frames := 2, cells := 0, slots := 0, locals := 44 }
set_option maxRecDepth 100000 in
set_option maxHeartbeats 4000000 in
theorem c_Cc_limit_r (l : Launch) (D : va_G) (cI cZ cJ : ClassId) (xCc : Nat) (xGo : Nat → Nat) (xFo : Nat → Nat) (xPk : Nat → Nat) (xSk : Nat → Nat) (xAi : Nat → Nat) (xSh : Nat → Nat) (xJo : Nat → Nat) (sz : Nat) (gGo : St) (gFo : St) (gPk : St) (qPk : Int64) (gSk : St) (gAi : St) (gSh : St) (gJo : St) (p1 : Int32) (p2 : Int32) (gSh1 : St) (h : f_Cc_limit gGo gFo gPk qPk gSk gAi gSh gJo p1 p2 = some (.inl gSh1)) : MV l y_Cc_limit b_Cc_limit 3 (Option.none : Option Jvm.ClassFile.FieldType) rm_Cc_limit_r D (TYS cI cZ cJ) [.ref xCc, .int p1, .int p2] (wCc xCc cI cZ xGo xFo xPk xSk xAi xSh xJo gGo gFo gPk qPk gSk gAi gSh gJo) sz (wCc xCc cI cZ xGo xFo xPk xSk xAi xSh xJo gGo gFo gPk qPk gSk gAi gSh1 gJo) := by
  refine mv_start (own := R_Cc) (by decide +kernel) rfl (Nat.le_of_ble_eq_true rfl) (fun p e s m args below meth c A ls C0 hr hlk hP hD hS hl => ?_)
  obtain ⟨Q, hQ⟩ : ∃ Q, Q = QV below D (TYS cI cZ cJ) A (wCc xCc cI cZ xGo xFo xPk xSk xAi xSh xJo gGo gFo gPk qPk gSk gAi gSh1 gJo) args s := ⟨_, rfl⟩
  rw [← hQ]
  obtain ⟨hx, hb, -, hown, hts, hK, hE, -⟩ := id C0
  have hl : lv_has ls 3 [(0, .ref xCc), (1, .int p1), (2, .int p2)] := hl
  obtain ⟨H, hH⟩ : ∃ H, H = s.heap := ⟨_, rfl⟩
  have hP : va_P D vwCl (wCc xCc cI cZ xGo xFo xPk xSk xAi xSh xJo gGo gFo gPk qPk gSk gAi gSh gJo) H := by rw [hH]; exact hP
  have hS : va_S A s.heap H [] := by rw [hH]; exact hS
  rw [show W p l e rm_Cc_limit_r s m args below meth c s.heap = W p l e rm_Cc_limit_r s m args below meth c H by rw [hH]]
  generalize ([] : List Loc) = locs at hS ⊢
  unfold f_Cc_limit at h
  refine lv_aload_n hx hb d_Cc_limit_0 rfl (lv_at hl 0 rfl) ?_
  refine va_get (ci := 7) (v := .ref (xSh 0)) (C := R_Cc) (T := F_Cc) (N := 7) hx hb hts i_Cc hown hK hP 0 rfl rfl 5 (by decide) (hts _ m_211) (fun _ h9 => h9) rfl d_Cc_limit_1 ?_
  refine lv_iload_n hx hb d_Cc_limit_4 rfl (lv_at hl 1 rfl) ?_
  refine lv_iload_n hx hb d_Cc_limit_5 rfl (lv_at hl 2 rfl) ?_
  obtain ⟨gSh_1, hc_2, h⟩ | ⟨E9, hc_2, h⟩ := xc1_i h
  rotate_left
  · cases h
  refine cVv (ws' := (wCc xCc cI cZ xGo xFo xPk xSk xAi xSh xJo gGo gFo gPk qPk gSk gAi gSh_1 gJo)) (As := [.int p1, .int p2]) (rest := []) C0 hP hD hS hl.1 [25] (c_Sh_allow_r l D cI cZ cJ xSh H.size gSh p1 p2 gSh_1 hc_2) k_Sh_allow m_644 rfl rfl rfl rfl rfl rfl ⟨by decide, by decide⟩ ⟨rfl, rfl⟩ rfl (Nat.le_of_ble_eq_true rfl) d_Cc_limit_6 ⟨Nat.zero_le _, Nat.zero_le _⟩ (fun H locs hP hD hS => ?_)
  cases h
  rw [hQ]
  exact mv_ret C0 hr hlk hP hD hS d_Cc_limit_9
abbrev rm_Cc_limit_t : Room := { frames := 8, cells := 1, slots := 6, locals := 126 }
set_option maxRecDepth 100000 in
set_option maxHeartbeats 4000000 in
theorem c_Cc_limit_t (l : Launch) (hltr : l.stackTraces = false) (D : va_G) (cI cZ cJ : ClassId) (xCc : Nat) (xGo : Nat → Nat) (xFo : Nat → Nat) (xPk : Nat → Nat) (xSk : Nat → Nat) (xAi : Nat → Nat) (xSh : Nat → Nat) (xJo : Nat → Nat) (sz : Nat) (gGo : St) (gFo : St) (gPk : St) (qPk : Int64) (gSk : St) (gAi : St) (gSh : St) (gJo : St) (p1 : Int32) (p2 : Int32) (E : String) (h : f_Cc_limit gGo gFo gPk qPk gSk gAi gSh gJo p1 p2 = some (.inr E)) : MT l y_Cc_limit b_Cc_limit 3 (Option.none : Option Jvm.ClassFile.FieldType) rm_Cc_limit_t D (TYS cI cZ cJ) [.ref xCc, .int p1, .int p2] (wCc xCc cI cZ xGo xFo xPk xSk xAi xSh xJo gGo gFo gPk qPk gSk gAi gSh gJo) sz E := by
  refine mt_start (own := R_Cc) (by decide +kernel) rfl (Nat.le_of_ble_eq_true rfl) (fun p e s m args below meth c A ls C0 hAe hno hlk hP hD hS hl => ?_)
  obtain ⟨Q, hQ⟩ : ∃ Q, Q = QT below D (TYS cI cZ cJ) (wCc xCc cI cZ xGo xFo xPk xSk xAi xSh xJo gGo gFo gPk qPk gSk gAi gSh gJo) E args s := ⟨_, rfl⟩
  rw [← hQ]
  obtain ⟨hx, hb, -, hown, hts, hK, hE, -⟩ := id C0
  have hl : lv_has ls 3 [(0, .ref xCc), (1, .int p1), (2, .int p2)] := hl
  obtain ⟨H, hH⟩ : ∃ H, H = s.heap := ⟨_, rfl⟩
  have hP : va_P D vwCl (wCc xCc cI cZ xGo xFo xPk xSk xAi xSh xJo gGo gFo gPk qPk gSk gAi gSh gJo) H := by rw [hH]; exact hP
  have hS : va_S A s.heap H [] := by rw [hH]; exact hS
  rw [show W p l e rm_Cc_limit_t s m args below meth c s.heap = W p l e rm_Cc_limit_t s m args below meth c H by rw [hH]]
  generalize ([] : List Loc) = locs at hS ⊢
  unfold f_Cc_limit at h
  refine lv_aload_n hx hb d_Cc_limit_0 rfl (lv_at hl 0 rfl) ?_
  refine va_get (ci := 7) (v := .ref (xSh 0)) (C := R_Cc) (T := F_Cc) (N := 7) hx hb hts i_Cc hown hK hP 0 rfl rfl 5 (by decide) (hts _ m_211) (fun _ h9 => h9) rfl d_Cc_limit_1 ?_
  refine lv_iload_n hx hb d_Cc_limit_4 rfl (lv_at hl 1 rfl) ?_
  refine lv_iload_n hx hb d_Cc_limit_5 rfl (lv_at hl 2 rfl) ?_
  obtain ⟨gSh_1, hc_2, h⟩ | ⟨E9, hc_2, h⟩ := xc1_i h
  rotate_left
  · cases h
    rw [hQ]
    exact x_out C0 hAe hno hlk hP hD hS [25] rfl rfl rfl (rV (As := [.int p1, .int p2]) (rest := []) C0 hP hD hS hl.1 [25] (c_Sh_allow_t l hltr D cI cZ cJ xSh H.size gSh p1 p2 E hc_2) k_Sh_allow m_644 rfl rfl rfl rfl ⟨by decide, by decide⟩ ⟨rfl, rfl⟩ rfl (Nat.le_of_ble_eq_true rfl) d_Cc_limit_6 ⟨by decide, by decide⟩) ⟨rfl, rfl⟩
  refine cVv (ws' := (wCc xCc cI cZ xGo xFo xPk xSk xAi xSh xJo gGo gFo gPk qPk gSk gAi gSh_1 gJo)) (As := [.int p1, .int p2]) (rest := []) C0 hP hD hS hl.1 [25] (c_Sh_allow_r l D cI cZ cJ xSh H.size gSh p1 p2 gSh_1 hc_2) k_Sh_allow m_644 rfl rfl rfl rfl rfl rfl ⟨by decide, by decide⟩ ⟨rfl, rfl⟩ rfl (Nat.le_of_ble_eq_true rfl) d_Cc_limit_6 ⟨Nat.zero_le _, Nat.zero_le _⟩ (fun H locs hP hD hS => ?_)
  cases h
abbrev rm_Cc_shock_r : Room := { frames := 2, cells := 0, slots := 0, locals := 45 }
set_option maxRecDepth 100000 in
set_option maxHeartbeats 4000000 in
theorem c_Cc_shock_r (l : Launch) (D : va_G) (cI cZ cJ : ClassId) (xCc : Nat) (xGo : Nat → Nat) (xFo : Nat → Nat) (xPk : Nat → Nat) (xSk : Nat → Nat) (xAi : Nat → Nat) (xSh : Nat → Nat) (xJo : Nat → Nat) (sz : Nat) (gGo : St) (gFo : St) (gPk : St) (qPk : Int64) (gSk : St) (gAi : St) (gSh : St) (gJo : St) (p1 : Int32) (p2 : Int32) (r : Int32) (gSh1 : St) (h : f_Cc_shock gGo gFo gPk qPk gSk gAi gSh gJo p1 p2 = some (.inl (r, gSh1))) : MI l y_Cc_shock b_Cc_shock 3 (some .boolean) rm_Cc_shock_r D (TYS cI cZ cJ) [.ref xCc, .int p1, .int p2] (wCc xCc cI cZ xGo xFo xPk xSk xAi xSh xJo gGo gFo gPk qPk gSk gAi gSh gJo) sz r (wCc xCc cI cZ xGo xFo xPk xSk xAi xSh xJo gGo gFo gPk qPk gSk gAi gSh1 gJo) := by
  refine mi_start (own := R_Cc) (by decide +kernel) rfl (Nat.le_of_ble_eq_true rfl) (fun p e s m args below meth c A ls C0 hr hlk hP hD hS hl => ?_)
  obtain ⟨Q, hQ⟩ : ∃ Q, Q = QI below D (TYS cI cZ cJ) A (wCc xCc cI cZ xGo xFo xPk xSk xAi xSh xJo gGo gFo gPk qPk gSk gAi gSh1 gJo) r args s := ⟨_, rfl⟩
  rw [← hQ]
  obtain ⟨hx, hb, -, hown, hts, hK, hE, -⟩ := id C0
  have hl : lv_has ls 3 [(0, .ref xCc), (1, .int p1), (2, .int p2)] := hl
  obtain ⟨H, hH⟩ : ∃ H, H = s.heap := ⟨_, rfl⟩
  have hP : va_P D vwCl (wCc xCc cI cZ xGo xFo xPk xSk xAi xSh xJo gGo gFo gPk qPk gSk gAi gSh gJo) H := by rw [hH]; exact hP
  have hS : va_S A s.heap H [] := by rw [hH]; exact hS
  rw [show W p l e rm_Cc_shock_r s m args below meth c s.heap = W p l e rm_Cc_shock_r s m args below meth c H by rw [hH]]
  generalize ([] : List Loc) = locs at hS ⊢
  unfold f_Cc_shock at h
  refine lv_aload_n hx hb d_Cc_shock_0 rfl (lv_at hl 0 rfl) ?_
  refine va_get (ci := 7) (v := .ref (xSh 0)) (C := R_Cc) (T := F_Cc) (N := 7) hx hb hts i_Cc hown hK hP 0 rfl rfl 5 (by decide) (hts _ m_211) (fun _ h9 => h9) rfl d_Cc_shock_1 ?_
  refine lv_iload_n hx hb d_Cc_shock_4 rfl (lv_at hl 1 rfl) ?_
  refine lv_iload_n hx hb d_Cc_shock_5 rfl (lv_at hl 2 rfl) ?_
  obtain ⟨r_1, gSh_2, hc_3, h⟩ | ⟨E9, hc_3, h⟩ := xc2_i h
  rotate_left
  · cases h
  refine cVi (ws' := (wCc xCc cI cZ xGo xFo xPk xSk xAi xSh xJo gGo gFo gPk qPk gSk gAi gSh_2 gJo)) (As := [.int p1, .int p2]) (rest := []) C0 hP hD hS hl.1 [25] (c_Sh_add_r l D cI cZ cJ xSh H.size gSh p1 p2 r_1 gSh_2 hc_3) k_Sh_add m_656 rfl rfl rfl rfl rfl rfl ⟨by decide, by decide⟩ ⟨rfl, rfl⟩ rfl (Nat.le_of_ble_eq_true rfl) d_Cc_shock_6 ⟨Nat.zero_le _, Nat.zero_le _⟩ (fun H locs hP hD hS => ?_)
  obtain ⟨hz_4, h⟩ := gb_i h
  cases h
  rw [hQ]
  exact mi_ret C0 hr (isb_n hz_4) hlk hP hD hS d_Cc_shock_9
abbrev rm_Cc_shock_t : Room := { frames := 8, cells := 1, slots := 6, locals := 127 }
set_option maxRecDepth 100000 in
set_option maxHeartbeats 4000000 in
theorem c_Cc_shock_t (l : Launch) (hltr : l.stackTraces = false) (D : va_G) (cI cZ cJ : ClassId) (xCc : Nat) (xGo : Nat → Nat) (xFo : Nat → Nat) (xPk : Nat → Nat) (xSk : Nat → Nat) (xAi : Nat → Nat) (xSh : Nat → Nat) (xJo : Nat → Nat) (sz : Nat) (gGo : St) (gFo : St) (gPk : St) (qPk : Int64) (gSk : St) (gAi : St) (gSh : St) (gJo : St) (p1 : Int32) (p2 : Int32) (E : String) (h : f_Cc_shock gGo gFo gPk qPk gSk gAi gSh gJo p1 p2 = some (.inr E)) : MT l y_Cc_shock b_Cc_shock 3 (some .boolean) rm_Cc_shock_t D (TYS cI cZ cJ) [.ref xCc, .int p1, .int p2] (wCc xCc cI cZ xGo xFo xPk xSk xAi xSh xJo gGo gFo gPk qPk gSk gAi gSh gJo) sz E := by
  refine mt_start (own := R_Cc) (by decide +kernel) rfl (Nat.le_of_ble_eq_true rfl) (fun p e s m args below meth c A ls C0 hAe hno hlk hP hD hS hl => ?_)
  obtain ⟨Q, hQ⟩ : ∃ Q, Q = QT below D (TYS cI cZ cJ) (wCc xCc cI cZ xGo xFo xPk xSk xAi xSh xJo gGo gFo gPk qPk gSk gAi gSh gJo) E args s := ⟨_, rfl⟩
  rw [← hQ]
  obtain ⟨hx, hb, -, hown, hts, hK, hE, -⟩ := id C0
  have hl : lv_has ls 3 [(0, .ref xCc), (1, .int p1), (2, .int p2)] := hl
  obtain ⟨H, hH⟩ : ∃ H, H = s.heap := ⟨_, rfl⟩
  have hP : va_P D vwCl (wCc xCc cI cZ xGo xFo xPk xSk xAi xSh xJo gGo gFo gPk qPk gSk gAi gSh gJo) H := by rw [hH]; exact hP
  have hS : va_S A s.heap H [] := by rw [hH]; exact hS
  rw [show W p l e rm_Cc_shock_t s m args below meth c s.heap = W p l e rm_Cc_shock_t s m args below meth c H by rw [hH]]
  generalize ([] : List Loc) = locs at hS ⊢
  unfold f_Cc_shock at h
  refine lv_aload_n hx hb d_Cc_shock_0 rfl (lv_at hl 0 rfl) ?_
  refine va_get (ci := 7) (v := .ref (xSh 0)) (C := R_Cc) (T := F_Cc) (N := 7) hx hb hts i_Cc hown hK hP 0 rfl rfl 5 (by decide) (hts _ m_211) (fun _ h9 => h9) rfl d_Cc_shock_1 ?_
  refine lv_iload_n hx hb d_Cc_shock_4 rfl (lv_at hl 1 rfl) ?_
  refine lv_iload_n hx hb d_Cc_shock_5 rfl (lv_at hl 2 rfl) ?_
  obtain ⟨r_1, gSh_2, hc_3, h⟩ | ⟨E9, hc_3, h⟩ := xc2_i h
  rotate_left
  · cases h
    rw [hQ]
    exact x_out C0 hAe hno hlk hP hD hS [25] rfl rfl rfl (rV (As := [.int p1, .int p2]) (rest := []) C0 hP hD hS hl.1 [25] (c_Sh_add_t l hltr D cI cZ cJ xSh H.size gSh p1 p2 E hc_3) k_Sh_add m_656 rfl rfl rfl rfl ⟨by decide, by decide⟩ ⟨rfl, rfl⟩ rfl (Nat.le_of_ble_eq_true rfl) d_Cc_shock_6 ⟨by decide, by decide⟩) ⟨rfl, rfl⟩
  refine cVi (ws' := (wCc xCc cI cZ xGo xFo xPk xSk xAi xSh xJo gGo gFo gPk qPk gSk gAi gSh_2 gJo)) (As := [.int p1, .int p2]) (rest := []) C0 hP hD hS hl.1 [25] (c_Sh_add_r l D cI cZ cJ xSh H.size gSh p1 p2 r_1 gSh_2 hc_3) k_Sh_add m_656 rfl rfl rfl rfl rfl rfl ⟨by decide, by decide⟩ ⟨rfl, rfl⟩ rfl (Nat.le_of_ble_eq_true rfl) d_Cc_shock_6 ⟨Nat.zero_le _, Nat.zero_le _⟩ (fun H locs hP hD hS => ?_)
  obtain ⟨hz_4, h⟩ := gb_i h
  cases h
abbrev rm_Cc_route_r : Room := { frames := 2, cells := 0, slots := 0, locals := 47 }
set_option maxRecDepth 100000 in
set_option maxHeartbeats 4000000 in
theorem c_Cc_route_r (l : Launch) (D : va_G) (cI cZ cJ : ClassId) (xCc : Nat) (xGo : Nat → Nat) (xFo : Nat → Nat) (xPk : Nat → Nat) (xSk : Nat → Nat) (xAi : Nat → Nat) (xSh : Nat → Nat) (xJo : Nat → Nat) (sz : Nat) (gGo : St) (gFo : St) (gPk : St) (qPk : Int64) (gSk : St) (gAi : St) (gSh : St) (gJo : St) (p1 : Int32) (p2 : Int32) (r : Int32) (gJo1 : St) (h : f_Cc_route gGo gFo gPk qPk gSk gAi gSh gJo p1 p2 = some (.inl (r, gJo1))) : MI l y_Cc_route b_Cc_route 3 (some .int) rm_Cc_route_r D (TYS cI cZ cJ) [.ref xCc, .int p1, .int p2] (wCc xCc cI cZ xGo xFo xPk xSk xAi xSh xJo gGo gFo gPk qPk gSk gAi gSh gJo) sz r (wCc xCc cI cZ xGo xFo xPk xSk xAi xSh xJo gGo gFo gPk qPk gSk gAi gSh gJo1) := by
  refine mi_start (own := R_Cc) (by decide +kernel) rfl (Nat.le_of_ble_eq_true rfl) (fun p e s m args below meth c A ls C0 hr hlk hP hD hS hl => ?_)
  obtain ⟨Q, hQ⟩ : ∃ Q, Q = QI below D (TYS cI cZ cJ) A (wCc xCc cI cZ xGo xFo xPk xSk xAi xSh xJo gGo gFo gPk qPk gSk gAi gSh gJo1) r args s := ⟨_, rfl⟩
  rw [← hQ]
  obtain ⟨hx, hb, -, hown, hts, hK, hE, -⟩ := id C0
  have hl : lv_has ls 3 [(0, .ref xCc), (1, .int p1), (2, .int p2)] := hl
  obtain ⟨H, hH⟩ : ∃ H, H = s.heap := ⟨_, rfl⟩
  have hP : va_P D vwCl (wCc xCc cI cZ xGo xFo xPk xSk xAi xSh xJo gGo gFo gPk qPk gSk gAi gSh gJo) H := by rw [hH]; exact hP
  have hS : va_S A s.heap H [] := by rw [hH]; exact hS
  rw [show W p l e rm_Cc_route_r s m args below meth c s.heap = W p l e rm_Cc_route_r s m args below meth c H by rw [hH]]
  generalize ([] : List Loc) = locs at hS ⊢
  unfold f_Cc_route at h
  refine lv_aload_n hx hb d_Cc_route_0 rfl (lv_at hl 0 rfl) ?_
  refine va_get (ci := 7) (v := .ref (xJo 0)) (C := R_Cc) (T := F_Cc) (N := 7) hx hb hts i_Cc hown hK hP 0 rfl rfl 6 (by decide) (hts _ m_212) (fun _ h9 => h9) rfl d_Cc_route_1 ?_
  refine lv_iload_n hx hb d_Cc_route_4 rfl (lv_at hl 1 rfl) ?_
  refine lv_iload_n hx hb d_Cc_route_5 rfl (lv_at hl 2 rfl) ?_
  obtain ⟨r_1, gJo_2, hc_3, h⟩ | ⟨E9, hc_3, h⟩ := xc2_i h
  rotate_left
  · cases h
  refine cVi (ws' := (wCc xCc cI cZ xGo xFo xPk xSk xAi xSh xJo gGo gFo gPk qPk gSk gAi gSh gJo_2)) (As := [.int p1, .int p2]) (rest := []) C0 hP hD hS hl.1 [26, 27] (c_Jo_plan_r l D cI cZ cJ xJo H.size gJo p1 p2 r_1 gJo_2 hc_3) k_Jo_plan m_667 rfl rfl rfl rfl rfl rfl ⟨by decide, by decide⟩ ⟨rfl, rfl⟩ rfl (Nat.le_of_ble_eq_true rfl) d_Cc_route_6 ⟨Nat.zero_le _, Nat.zero_le _⟩ (fun H locs hP hD hS => ?_)
  cases h
  rw [hQ]
  exact mi_ret C0 hr rfl hlk hP hD hS d_Cc_route_9
abbrev rm_Cc_route_t : Room := { frames := 8, cells := 1, slots := 6, locals := 129 }
set_option maxRecDepth 100000 in
set_option maxHeartbeats 4000000 in
theorem c_Cc_route_t (l : Launch) (hltr : l.stackTraces = false) (D : va_G) (cI cZ cJ : ClassId) (xCc : Nat) (xGo : Nat → Nat) (xFo : Nat → Nat) (xPk : Nat → Nat) (xSk : Nat → Nat) (xAi : Nat → Nat) (xSh : Nat → Nat) (xJo : Nat → Nat) (sz : Nat) (gGo : St) (gFo : St) (gPk : St) (qPk : Int64) (gSk : St) (gAi : St) (gSh : St) (gJo : St) (p1 : Int32) (p2 : Int32) (E : String) (h : f_Cc_route gGo gFo gPk qPk gSk gAi gSh gJo p1 p2 = some (.inr E)) : MT l y_Cc_route b_Cc_route 3 (some .int) rm_Cc_route_t D (TYS cI cZ cJ) [.ref xCc, .int p1, .int p2] (wCc xCc cI cZ xGo xFo xPk xSk xAi xSh xJo gGo gFo gPk qPk gSk gAi gSh gJo) sz E := by
  refine mt_start (own := R_Cc) (by decide +kernel) rfl (Nat.le_of_ble_eq_true rfl) (fun p e s m args below meth c A ls C0 hAe hno hlk hP hD hS hl => ?_)
  obtain ⟨Q, hQ⟩ : ∃ Q, Q = QT below D (TYS cI cZ cJ) (wCc xCc cI cZ xGo xFo xPk xSk xAi xSh xJo gGo gFo gPk qPk gSk gAi gSh gJo) E args s := ⟨_, rfl⟩
  rw [← hQ]
  obtain ⟨hx, hb, -, hown, hts, hK, hE, -⟩ := id C0
  have hl : lv_has ls 3 [(0, .ref xCc), (1, .int p1), (2, .int p2)] := hl
  obtain ⟨H, hH⟩ : ∃ H, H = s.heap := ⟨_, rfl⟩
  have hP : va_P D vwCl (wCc xCc cI cZ xGo xFo xPk xSk xAi xSh xJo gGo gFo gPk qPk gSk gAi gSh gJo) H := by rw [hH]; exact hP
  have hS : va_S A s.heap H [] := by rw [hH]; exact hS
  rw [show W p l e rm_Cc_route_t s m args below meth c s.heap = W p l e rm_Cc_route_t s m args below meth c H by rw [hH]]
  generalize ([] : List Loc) = locs at hS ⊢
  unfold f_Cc_route at h
  refine lv_aload_n hx hb d_Cc_route_0 rfl (lv_at hl 0 rfl) ?_
  refine va_get (ci := 7) (v := .ref (xJo 0)) (C := R_Cc) (T := F_Cc) (N := 7) hx hb hts i_Cc hown hK hP 0 rfl rfl 6 (by decide) (hts _ m_212) (fun _ h9 => h9) rfl d_Cc_route_1 ?_
  refine lv_iload_n hx hb d_Cc_route_4 rfl (lv_at hl 1 rfl) ?_
  refine lv_iload_n hx hb d_Cc_route_5 rfl (lv_at hl 2 rfl) ?_
  obtain ⟨r_1, gJo_2, hc_3, h⟩ | ⟨E9, hc_3, h⟩ := xc2_i h
  rotate_left
  · cases h
    rw [hQ]
    exact x_out C0 hAe hno hlk hP hD hS [26, 27] rfl rfl rfl (rV (As := [.int p1, .int p2]) (rest := []) C0 hP hD hS hl.1 [26, 27] (c_Jo_plan_t l hltr D cI cZ cJ xJo H.size gJo p1 p2 E hc_3) k_Jo_plan m_667 rfl rfl rfl rfl ⟨by decide, by decide⟩ ⟨rfl, rfl⟩ rfl (Nat.le_of_ble_eq_true rfl) d_Cc_route_6 ⟨by decide, by decide⟩) ⟨rfl, rfl⟩
  refine cVi (ws' := (wCc xCc cI cZ xGo xFo xPk xSk xAi xSh xJo gGo gFo gPk qPk gSk gAi gSh gJo_2)) (As := [.int p1, .int p2]) (rest := []) C0 hP hD hS hl.1 [26, 27] (c_Jo_plan_r l D cI cZ cJ xJo H.size gJo p1 p2 r_1 gJo_2 hc_3) k_Jo_plan m_667 rfl rfl rfl rfl rfl rfl ⟨by decide, by decide⟩ ⟨rfl, rfl⟩ rfl (Nat.le_of_ble_eq_true rfl) d_Cc_route_6 ⟨Nat.zero_le _, Nat.zero_le _⟩ (fun H locs hP hD hS => ?_)
  cases h
abbrev rm_Cc_drop_r : Room := { frames := 2, cells := 0, slots := 0, locals := 42 }
set_option maxRecDepth 100000 in
set_option maxHeartbeats 4000000 in
theorem c_Cc_drop_r (l : Launch) (D : va_G) (cI cZ cJ : ClassId) (xCc : Nat) (xGo : Nat → Nat) (xFo : Nat → Nat) (xPk : Nat → Nat) (xSk : Nat → Nat) (xAi : Nat → Nat) (xSh : Nat → Nat) (xJo : Nat → Nat) (sz : Nat) (gGo : St) (gFo : St) (gPk : St) (qPk : Int64) (gSk : St) (gAi : St) (gSh : St) (gJo : St) (p1 : Int32) (r : Int32) (h : f_Cc_drop gGo gFo gPk qPk gSk gAi gSh gJo p1 = some (.inl r)) : MI l y_Cc_drop b_Cc_drop 2 (some .int) rm_Cc_drop_r D (TYS cI cZ cJ) [.ref xCc, .int p1] (wCc xCc cI cZ xGo xFo xPk xSk xAi xSh xJo gGo gFo gPk qPk gSk gAi gSh gJo) sz r (wCc xCc cI cZ xGo xFo xPk xSk xAi xSh xJo gGo gFo gPk qPk gSk gAi gSh gJo) := by
  refine mi_start (own := R_Cc) (by decide +kernel) rfl (Nat.le_of_ble_eq_true rfl) (fun p e s m args below meth c A ls C0 hr hlk hP hD hS hl => ?_)
  obtain ⟨Q, hQ⟩ : ∃ Q, Q = QI below D (TYS cI cZ cJ) A (wCc xCc cI cZ xGo xFo xPk xSk xAi xSh xJo gGo gFo gPk qPk gSk gAi gSh gJo) r args s := ⟨_, rfl⟩
  rw [← hQ]
  obtain ⟨hx, hb, -, hown, hts, hK, hE, -⟩ := id C0
  have hl : lv_has ls 2 [(0, .ref xCc), (1, .int p1)] := hl
  obtain ⟨H, hH⟩ : ∃ H, H = s.heap := ⟨_, rfl⟩
  have hP : va_P D vwCl (wCc xCc cI cZ xGo xFo xPk xSk xAi xSh xJo gGo gFo gPk qPk gSk gAi gSh gJo) H := by rw [hH]; exact hP
  have hS : va_S A s.heap H [] := by rw [hH]; exact hS
  rw [show W p l e rm_Cc_drop_r s m args below meth c s.heap = W p l e rm_Cc_drop_r s m args below meth c H by rw [hH]]
  generalize ([] : List Loc) = locs at hS ⊢
  unfold f_Cc_drop at h
  refine lv_aload_n hx hb d_Cc_drop_0 rfl (lv_at hl 0 rfl) ?_
  refine va_get (ci := 7) (v := .ref (xJo 0)) (C := R_Cc) (T := F_Cc) (N := 7) hx hb hts i_Cc hown hK hP 0 rfl rfl 6 (by decide) (hts _ m_212) (fun _ h9 => h9) rfl d_Cc_drop_1 ?_
  refine lv_iload_n hx hb d_Cc_drop_4 rfl (lv_at hl 1 rfl) ?_
  obtain ⟨r_1, hc_2, h⟩ | ⟨E9, hc_2, h⟩ := xc1_i h
  rotate_left
  · cases h
  refine cVi (ws' := (wCc xCc cI cZ xGo xFo xPk xSk xAi xSh xJo gGo gFo gPk qPk gSk gAi gSh gJo)) (As := [.int p1]) (rest := []) C0 hP hD hS hl.1 [26, 27] (c_Jo_dropOf_r l D cI cZ cJ xJo H.size gJo p1 r_1 hc_2) k_Jo_dropOf m_681 rfl rfl rfl rfl rfl (rp_same rfl) ⟨by decide, by decide⟩ ⟨rfl, rfl⟩ rfl (Nat.le_of_ble_eq_true rfl) d_Cc_drop_5 ⟨Nat.zero_le _, Nat.zero_le _⟩ (fun H locs hP hD hS => ?_)
  cases h
  rw [hQ]
  exact mi_ret C0 hr rfl hlk hP hD hS d_Cc_drop_8
abbrev rm_Cc_drop_t : Room := { frames := 8, cells := 1, slots := 6, locals := 124 }
set_option maxRecDepth 100000 in
set_option maxHeartbeats 4000000 in
theorem c_Cc_drop_t (l : Launch) (hltr : l.stackTraces = false) (D : va_G) (cI cZ cJ : ClassId) (xCc : Nat) (xGo : Nat → Nat) (xFo : Nat → Nat) (xPk : Nat → Nat) (xSk : Nat → Nat) (xAi : Nat → Nat) (xSh : Nat → Nat) (xJo : Nat → Nat) (sz : Nat) (gGo : St) (gFo : St) (gPk : St) (qPk : Int64) (gSk : St) (gAi : St) (gSh : St) (gJo : St) (p1 : Int32) (E : String) (h : f_Cc_drop gGo gFo gPk qPk gSk gAi gSh gJo p1 = some (.inr E)) : MT l y_Cc_drop b_Cc_drop 2 (some .int) rm_Cc_drop_t D (TYS cI cZ cJ) [.ref xCc, .int p1] (wCc xCc cI cZ xGo xFo xPk xSk xAi xSh xJo gGo gFo gPk qPk gSk gAi gSh gJo) sz E := by
  refine mt_start (own := R_Cc) (by decide +kernel) rfl (Nat.le_of_ble_eq_true rfl) (fun p e s m args below meth c A ls C0 hAe hno hlk hP hD hS hl => ?_)
  obtain ⟨Q, hQ⟩ : ∃ Q, Q = QT below D (TYS cI cZ cJ) (wCc xCc cI cZ xGo xFo xPk xSk xAi xSh xJo gGo gFo gPk qPk gSk gAi gSh gJo) E args s := ⟨_, rfl⟩
  rw [← hQ]
  obtain ⟨hx, hb, -, hown, hts, hK, hE, -⟩ := id C0
  have hl : lv_has ls 2 [(0, .ref xCc), (1, .int p1)] := hl
  obtain ⟨H, hH⟩ : ∃ H, H = s.heap := ⟨_, rfl⟩
  have hP : va_P D vwCl (wCc xCc cI cZ xGo xFo xPk xSk xAi xSh xJo gGo gFo gPk qPk gSk gAi gSh gJo) H := by rw [hH]; exact hP
  have hS : va_S A s.heap H [] := by rw [hH]; exact hS
  rw [show W p l e rm_Cc_drop_t s m args below meth c s.heap = W p l e rm_Cc_drop_t s m args below meth c H by rw [hH]]
  generalize ([] : List Loc) = locs at hS ⊢
  unfold f_Cc_drop at h
  refine lv_aload_n hx hb d_Cc_drop_0 rfl (lv_at hl 0 rfl) ?_
  refine va_get (ci := 7) (v := .ref (xJo 0)) (C := R_Cc) (T := F_Cc) (N := 7) hx hb hts i_Cc hown hK hP 0 rfl rfl 6 (by decide) (hts _ m_212) (fun _ h9 => h9) rfl d_Cc_drop_1 ?_
  refine lv_iload_n hx hb d_Cc_drop_4 rfl (lv_at hl 1 rfl) ?_
  obtain ⟨r_1, hc_2, h⟩ | ⟨E9, hc_2, h⟩ := xc1_i h
  rotate_left
  · cases h
    rw [hQ]
    exact x_out C0 hAe hno hlk hP hD hS [26, 27] rfl rfl rfl (rV (As := [.int p1]) (rest := []) C0 hP hD hS hl.1 [26, 27] (c_Jo_dropOf_t l hltr D cI cZ cJ xJo H.size gJo p1 E hc_2) k_Jo_dropOf m_681 rfl rfl rfl rfl ⟨by decide, by decide⟩ ⟨rfl, rfl⟩ rfl (Nat.le_of_ble_eq_true rfl) d_Cc_drop_5 ⟨by decide, by decide⟩) ⟨rfl, rfl⟩
  refine cVi (ws' := (wCc xCc cI cZ xGo xFo xPk xSk xAi xSh xJo gGo gFo gPk qPk gSk gAi gSh gJo)) (As := [.int p1]) (rest := []) C0 hP hD hS hl.1 [26, 27] (c_Jo_dropOf_r l D cI cZ cJ xJo H.size gJo p1 r_1 hc_2) k_Jo_dropOf m_681 rfl rfl rfl rfl rfl (rp_same rfl) ⟨by decide, by decide⟩ ⟨rfl, rfl⟩ rfl (Nat.le_of_ble_eq_true rfl) d_Cc_drop_5 ⟨Nat.zero_le _, Nat.zero_le _⟩ (fun H locs hP hD hS => ?_)
  cases h
abbrev rm_Cc_count_r : Room := { frames := 1, cells := 0, slots := 0, locals := 22 }
set_option maxRecDepth 100000 in
set_option maxHeartbeats 4000000 in
theorem c_Cc_count_r (l : Launch) (D : va_G) (cI cZ cJ : ClassId) (xCc : Nat) (xGo : Nat → Nat) (xFo : Nat → Nat) (xPk : Nat → Nat) (xSk : Nat → Nat) (xAi : Nat → Nat) (xSh : Nat → Nat) (xJo : Nat → Nat) (sz : Nat) (gGo : St) (gFo : St) (gPk : St) (qPk : Int64) (gSk : St) (gAi : St) (gSh : St) (gJo : St) (p1 : Int32) (r : Int32) (h : f_Cc_count gGo gFo gPk qPk gSk gAi gSh gJo p1 = some (.inl r)) : MI l y_Cc_count b_Cc_count 2 (some .int) rm_Cc_count_r D (TYS cI cZ cJ) [.ref xCc, .int p1] (wCc xCc cI cZ xGo xFo xPk xSk xAi xSh xJo gGo gFo gPk qPk gSk gAi gSh gJo) sz r (wCc xCc cI cZ xGo xFo xPk xSk xAi xSh xJo gGo gFo gPk qPk gSk gAi gSh gJo) := by
  refine mi_start (own := R_Cc) (by decide +kernel) rfl (Nat.le_of_ble_eq_true rfl) (fun p e s m args below meth c A ls C0 hr hlk hP hD hS hl => ?_)
  obtain ⟨Q, hQ⟩ : ∃ Q, Q = QI below D (TYS cI cZ cJ) A (wCc xCc cI cZ xGo xFo xPk xSk xAi xSh xJo gGo gFo gPk qPk gSk gAi gSh gJo) r args s := ⟨_, rfl⟩
  rw [← hQ]
  obtain ⟨hx, hb, -, hown, hts, hK, hE, -⟩ := id C0
  have hl : lv_has ls 2 [(0, .ref xCc), (1, .int p1)] := hl
  obtain ⟨H, hH⟩ : ∃ H, H = s.heap := ⟨_, rfl⟩
  have hP : va_P D vwCl (wCc xCc cI cZ xGo xFo xPk xSk xAi xSh xJo gGo gFo gPk qPk gSk gAi gSh gJo) H := by rw [hH]; exact hP
  have hS : va_S A s.heap H [] := by rw [hH]; exact hS
  rw [show W p l e rm_Cc_count_r s m args below meth c s.heap = W p l e rm_Cc_count_r s m args below meth c H by rw [hH]]
  generalize ([] : List Loc) = locs at hS ⊢
  unfold f_Cc_count at h
  refine lv_iload_n hx hb d_Cc_count_0 rfl (lv_at hl 1 rfl) ?_
  by_cases c_1 : p1 = 0
  · rw [if_pos c_1] at h
    refine lv_tableIn (off := 39) (tgt := 40) hx hb d_Cc_count_1 (by rw [c_1]; decide) (by rw [c_1]; decide) (by rw [c_1]; rfl) (by decide) ?_
    refine lv_aload_n hx hb d_Cc_count_40 rfl (lv_at hl 0 rfl) ?_
    refine va_get (ci := 7) (v := .ref (xGo 0)) (C := R_Cc) (T := F_Cc) (N := 7) hx hb hts i_Cc hown hK hP 0 rfl rfl 0 (by decide) (hts _ m_206) (fun _ h9 => h9) rfl d_Cc_count_41 ?_
    refine va_getN (ci := 2) (v := .int (gGo 0 5)) (C := R_Go) (T := F_Go) (N := 6) hx hb hts i_Go hown hK hP 1 rfl rfl 5 (by decide) (va_Nw.use rfl (hE.1 _ (List.mem_of_getElem? (i := 2) rfl))) (fun _ h9 => h9) rfl d_Cc_count_44 ?_
    cases h
    rw [hQ]
    exact mi_ret C0 hr rfl hlk hP hD hS d_Cc_count_47
  rw [if_neg c_1] at h
  by_cases c_2 : p1 = 1
  · rw [if_pos c_2] at h
    refine lv_tableIn (off := 47) (tgt := 48) hx hb d_Cc_count_1 (by rw [c_2]; decide) (by rw [c_2]; decide) (by rw [c_2]; rfl) (by decide) ?_
    refine lv_aload_n hx hb d_Cc_count_48 rfl (lv_at hl 0 rfl) ?_
    refine va_get (ci := 7) (v := .ref (xSk 0)) (C := R_Cc) (T := F_Cc) (N := 7) hx hb hts i_Cc hown hK hP 0 rfl rfl 3 (by decide) (hts _ m_209) (fun _ h9 => h9) rfl d_Cc_count_49 ?_
    refine va_getN (ci := 6) (v := .int (gSk 0 4)) (C := R_Sk) (T := F_Sk) (N := 5) hx hb hts i_Sk hown hK hP 18 rfl rfl 4 (by decide) (va_Nw.use rfl (hE.1 _ (List.mem_of_getElem? (i := 3) rfl))) (fun _ h9 => h9) rfl d_Cc_count_52 ?_
    cases h
    rw [hQ]
    exact mi_ret C0 hr rfl hlk hP hD hS d_Cc_count_55
  rw [if_neg c_2] at h
  by_cases c_3 : p1 = 2
  · rw [if_pos c_3] at h
    refine lv_tableIn (off := 55) (tgt := 56) hx hb d_Cc_count_1 (by rw [c_3]; decide) (by rw [c_3]; decide) (by rw [c_3]; rfl) (by decide) ?_
    refine lv_aload_n hx hb d_Cc_count_56 rfl (lv_at hl 0 rfl) ?_
    refine va_get (ci := 7) (v := .ref (xSk 0)) (C := R_Cc) (T := F_Cc) (N := 7) hx hb hts i_Cc hown hK hP 0 rfl rfl 3 (by decide) (hts _ m_209) (fun _ h9 => h9) rfl d_Cc_count_57 ?_
    obtain ⟨r_4, hc_5, h⟩ := xv1_i h
    refine cVi (ws' := (wCc xCc cI cZ xGo xFo xPk xSk xAi xSh xJo gGo gFo gPk qPk gSk gAi gSh gJo)) (As := []) (rest := []) C0 hP hD hS hl.1 [18, 19, 20, 21, 22] (c_Sk_takenCount_r l D cI cZ cJ xSk H.size gSk r_4 hc_5) k_Sk_takenCount m_693 rfl rfl rfl rfl rfl (rp_same rfl) ⟨by decide, by decide⟩ ⟨rfl, rfl⟩ rfl (Nat.le_of_ble_eq_true rfl) d_Cc_count_60 ⟨Nat.zero_le _, Nat.zero_le _⟩ (fun H locs hP hD hS => ?_)
    cases h
    rw [hQ]
    exact mi_ret C0 hr rfl hlk hP hD hS d_Cc_count_63
  rw [if_neg c_3] at h
  by_cases c_6 : p1 = 3
  · rw [if_pos c_6] at h
    refine lv_tableIn (off := 63) (tgt := 64) hx hb d_Cc_count_1 (by rw [c_6]; decide) (by rw [c_6]; decide) (by rw [c_6]; rfl) (by decide) ?_
    refine lv_aload_n hx hb d_Cc_count_64 rfl (lv_at hl 0 rfl) ?_
    refine va_get (ci := 7) (v := .ref (xAi 0)) (C := R_Cc) (T := F_Cc) (N := 7) hx hb hts i_Cc hown hK hP 0 rfl rfl 4 (by decide) (hts _ m_210) (fun _ h9 => h9) rfl d_Cc_count_65 ?_
    refine va_getN (ci := 0) (v := .int (gAi 0 1)) (C := R_Ai) (T := F_Ai) (N := 3) hx hb hts i_Ai hown hK hP 23 rfl rfl 1 (by decide) (va_Nw.use rfl (hE.1 _ (List.mem_of_getElem? (i := 4) rfl))) (fun _ h9 => h9) rfl d_Cc_count_68 ?_
    cases h
    rw [hQ]
    exact mi_ret C0 hr rfl hlk hP hD hS d_Cc_count_71
  rw [if_neg c_6] at h
  by_cases c_7 : p1 = 4
  · rw [if_pos c_7] at h
    refine lv_tableIn (off := 71) (tgt := 72) hx hb d_Cc_count_1 (by rw [c_7]; decide) (by rw [c_7]; decide) (by rw [c_7]; rfl) (by decide) ?_
    refine lv_aload_n hx hb d_Cc_count_72 rfl (lv_at hl 0 rfl) ?_
    refine va_get (ci := 7) (v := .ref (xSh 0)) (C := R_Cc) (T := F_Cc) (N := 7) hx hb hts i_Cc hown hK hP 0 rfl rfl 5 (by decide) (hts _ m_211) (fun _ h9 => h9) rfl d_Cc_count_73 ?_
    refine va_getN (ci := 5) (v := .int (gSh 0 2)) (C := R_Sh) (T := F_Sh) (N := 4) hx hb hts i_Sh hown hK hP 25 rfl rfl 2 (by decide) (va_Nw.use rfl (hE.1 _ (List.mem_of_getElem? (i := 5) rfl))) (fun _ h9 => h9) rfl d_Cc_count_76 ?_
    cases h
    rw [hQ]
    exact mi_ret C0 hr rfl hlk hP hD hS d_Cc_count_79
  rw [if_neg c_7] at h
  by_cases c_8 : p1 = 5
  · rw [if_pos c_8] at h
    refine lv_tableIn (off := 79) (tgt := 80) hx hb d_Cc_count_1 (by rw [c_8]; decide) (by rw [c_8]; decide) (by rw [c_8]; rfl) (by decide) ?_
    refine lv_aload_n hx hb d_Cc_count_80 rfl (lv_at hl 0 rfl) ?_
    refine va_get (ci := 7) (v := .ref (xSh 0)) (C := R_Cc) (T := F_Cc) (N := 7) hx hb hts i_Cc hown hK hP 0 rfl rfl 5 (by decide) (hts _ m_211) (fun _ h9 => h9) rfl d_Cc_count_81 ?_
    refine va_getN (ci := 5) (v := .int (gSh 0 3)) (C := R_Sh) (T := F_Sh) (N := 4) hx hb hts i_Sh hown hK hP 25 rfl rfl 3 (by decide) (va_Nw.use rfl (hE.1 _ (List.mem_of_getElem? (i := 6) rfl))) (fun _ h9 => h9) rfl d_Cc_count_84 ?_
    cases h
    rw [hQ]
    exact mi_ret C0 hr rfl hlk hP hD hS d_Cc_count_87
  rw [if_neg c_8] at h
  have qc_1 := lv_neT c_1 (show (0 : Int32).toInt = 0 by decide)
  have qc_2 := lv_neT c_2 (show (1 : Int32).toInt = 1 by decide)
  have qc_3 := lv_neT c_3 (show (2 : Int32).toInt = 2 by decide)
  have qc_6 := lv_neT c_6 (show (3 : Int32).toInt = 3 by decide)
  have qc_7 := lv_neT c_7 (show (4 : Int32).toInt = 4 by decide)
  have qc_8 := lv_neT c_8 (show (5 : Int32).toInt = 5 by decide)
  refine lv_tableOut (tgt := 88) hx hb d_Cc_count_1 (by omega) (by decide) ?_
  cases h
abbrev rm_Cc_count_t : Room := { frames := 6, cells := 1, slots := 6, locals := 82 }
set_option maxRecDepth 100000 in
set_option maxHeartbeats 4000000 in
theorem c_Cc_count_t (l : Launch) (hltr : l.stackTraces = false) (D : va_G) (cI cZ cJ : ClassId) (xCc : Nat) (xGo : Nat → Nat) (xFo : Nat → Nat) (xPk : Nat → Nat) (xSk : Nat → Nat) (xAi : Nat → Nat) (xSh : Nat → Nat) (xJo : Nat → Nat) (sz : Nat) (gGo : St) (gFo : St) (gPk : St) (qPk : Int64) (gSk : St) (gAi : St) (gSh : St) (gJo : St) (p1 : Int32) (E : String) (h : f_Cc_count gGo gFo gPk qPk gSk gAi gSh gJo p1 = some (.inr E)) : MT l y_Cc_count b_Cc_count 2 (some .int) rm_Cc_count_t D (TYS cI cZ cJ) [.ref xCc, .int p1] (wCc xCc cI cZ xGo xFo xPk xSk xAi xSh xJo gGo gFo gPk qPk gSk gAi gSh gJo) sz E := by
  refine mt_start (own := R_Cc) (by decide +kernel) rfl (Nat.le_of_ble_eq_true rfl) (fun p e s m args below meth c A ls C0 hAe hno hlk hP hD hS hl => ?_)
  obtain ⟨Q, hQ⟩ : ∃ Q, Q = QT below D (TYS cI cZ cJ) (wCc xCc cI cZ xGo xFo xPk xSk xAi xSh xJo gGo gFo gPk qPk gSk gAi gSh gJo) E args s := ⟨_, rfl⟩
  rw [← hQ]
  obtain ⟨hx, hb, -, hown, hts, hK, hE, -⟩ := id C0
  have hl : lv_has ls 2 [(0, .ref xCc), (1, .int p1)] := hl
  obtain ⟨H, hH⟩ : ∃ H, H = s.heap := ⟨_, rfl⟩
  have hP : va_P D vwCl (wCc xCc cI cZ xGo xFo xPk xSk xAi xSh xJo gGo gFo gPk qPk gSk gAi gSh gJo) H := by rw [hH]; exact hP
  have hS : va_S A s.heap H [] := by rw [hH]; exact hS
  rw [show W p l e rm_Cc_count_t s m args below meth c s.heap = W p l e rm_Cc_count_t s m args below meth c H by rw [hH]]
  generalize ([] : List Loc) = locs at hS ⊢
  unfold f_Cc_count at h
  refine lv_iload_n hx hb d_Cc_count_0 rfl (lv_at hl 1 rfl) ?_
  by_cases c_1 : p1 = 0
  · rw [if_pos c_1] at h
    refine lv_tableIn (off := 39) (tgt := 40) hx hb d_Cc_count_1 (by rw [c_1]; decide) (by rw [c_1]; decide) (by rw [c_1]; rfl) (by decide) ?_
    refine lv_aload_n hx hb d_Cc_count_40 rfl (lv_at hl 0 rfl) ?_
    refine va_get (ci := 7) (v := .ref (xGo 0)) (C := R_Cc) (T := F_Cc) (N := 7) hx hb hts i_Cc hown hK hP 0 rfl rfl 0 (by decide) (hts _ m_206) (fun _ h9 => h9) rfl d_Cc_count_41 ?_
    refine va_getN (ci := 2) (v := .int (gGo 0 5)) (C := R_Go) (T := F_Go) (N := 6) hx hb hts i_Go hown hK hP 1 rfl rfl 5 (by decide) (va_Nw.use rfl (hE.1 _ (List.mem_of_getElem? (i := 2) rfl))) (fun _ h9 => h9) rfl d_Cc_count_44 ?_
    cases h
  rw [if_neg c_1] at h
  by_cases c_2 : p1 = 1
  · rw [if_pos c_2] at h
    refine lv_tableIn (off := 47) (tgt := 48) hx hb d_Cc_count_1 (by rw [c_2]; decide) (by rw [c_2]; decide) (by rw [c_2]; rfl) (by decide) ?_
    refine lv_aload_n hx hb d_Cc_count_48 rfl (lv_at hl 0 rfl) ?_
    refine va_get (ci := 7) (v := .ref (xSk 0)) (C := R_Cc) (T := F_Cc) (N := 7) hx hb hts i_Cc hown hK hP 0 rfl rfl 3 (by decide) (hts _ m_209) (fun _ h9 => h9) rfl d_Cc_count_49 ?_
    refine va_getN (ci := 6) (v := .int (gSk 0 4)) (C := R_Sk) (T := F_Sk) (N := 5) hx hb hts i_Sk hown hK hP 18 rfl rfl 4 (by decide) (va_Nw.use rfl (hE.1 _ (List.mem_of_getElem? (i := 3) rfl))) (fun _ h9 => h9) rfl d_Cc_count_52 ?_
    cases h
  rw [if_neg c_2] at h
  by_cases c_3 : p1 = 2
  · rw [if_pos c_3] at h
    refine lv_tableIn (off := 55) (tgt := 56) hx hb d_Cc_count_1 (by rw [c_3]; decide) (by rw [c_3]; decide) (by rw [c_3]; rfl) (by decide) ?_
    refine lv_aload_n hx hb d_Cc_count_56 rfl (lv_at hl 0 rfl) ?_
    refine va_get (ci := 7) (v := .ref (xSk 0)) (C := R_Cc) (T := F_Cc) (N := 7) hx hb hts i_Cc hown hK hP 0 rfl rfl 3 (by decide) (hts _ m_209) (fun _ h9 => h9) rfl d_Cc_count_57 ?_
    obtain ⟨r_4, hc_5, h⟩ := xv1_i h
    refine cVi (ws' := (wCc xCc cI cZ xGo xFo xPk xSk xAi xSh xJo gGo gFo gPk qPk gSk gAi gSh gJo)) (As := []) (rest := []) C0 hP hD hS hl.1 [18, 19, 20, 21, 22] (c_Sk_takenCount_r l D cI cZ cJ xSk H.size gSk r_4 hc_5) k_Sk_takenCount m_693 rfl rfl rfl rfl rfl (rp_same rfl) ⟨by decide, by decide⟩ ⟨rfl, rfl⟩ rfl (Nat.le_of_ble_eq_true rfl) d_Cc_count_60 ⟨Nat.zero_le _, Nat.zero_le _⟩ (fun H locs hP hD hS => ?_)
    cases h
  rw [if_neg c_3] at h
  by_cases c_6 : p1 = 3
  · rw [if_pos c_6] at h
    refine lv_tableIn (off := 63) (tgt := 64) hx hb d_Cc_count_1 (by rw [c_6]; decide) (by rw [c_6]; decide) (by rw [c_6]; rfl) (by decide) ?_
    refine lv_aload_n hx hb d_Cc_count_64 rfl (lv_at hl 0 rfl) ?_
    refine va_get (ci := 7) (v := .ref (xAi 0)) (C := R_Cc) (T := F_Cc) (N := 7) hx hb hts i_Cc hown hK hP 0 rfl rfl 4 (by decide) (hts _ m_210) (fun _ h9 => h9) rfl d_Cc_count_65 ?_
    refine va_getN (ci := 0) (v := .int (gAi 0 1)) (C := R_Ai) (T := F_Ai) (N := 3) hx hb hts i_Ai hown hK hP 23 rfl rfl 1 (by decide) (va_Nw.use rfl (hE.1 _ (List.mem_of_getElem? (i := 4) rfl))) (fun _ h9 => h9) rfl d_Cc_count_68 ?_
    cases h
  rw [if_neg c_6] at h
  by_cases c_7 : p1 = 4
  · rw [if_pos c_7] at h
    refine lv_tableIn (off := 71) (tgt := 72) hx hb d_Cc_count_1 (by rw [c_7]; decide) (by rw [c_7]; decide) (by rw [c_7]; rfl) (by decide) ?_
    refine lv_aload_n hx hb d_Cc_count_72 rfl (lv_at hl 0 rfl) ?_
    refine va_get (ci := 7) (v := .ref (xSh 0)) (C := R_Cc) (T := F_Cc) (N := 7) hx hb hts i_Cc hown hK hP 0 rfl rfl 5 (by decide) (hts _ m_211) (fun _ h9 => h9) rfl d_Cc_count_73 ?_
    refine va_getN (ci := 5) (v := .int (gSh 0 2)) (C := R_Sh) (T := F_Sh) (N := 4) hx hb hts i_Sh hown hK hP 25 rfl rfl 2 (by decide) (va_Nw.use rfl (hE.1 _ (List.mem_of_getElem? (i := 5) rfl))) (fun _ h9 => h9) rfl d_Cc_count_76 ?_
    cases h
  rw [if_neg c_7] at h
  by_cases c_8 : p1 = 5
  · rw [if_pos c_8] at h
    refine lv_tableIn (off := 79) (tgt := 80) hx hb d_Cc_count_1 (by rw [c_8]; decide) (by rw [c_8]; decide) (by rw [c_8]; rfl) (by decide) ?_
    refine lv_aload_n hx hb d_Cc_count_80 rfl (lv_at hl 0 rfl) ?_
    refine va_get (ci := 7) (v := .ref (xSh 0)) (C := R_Cc) (T := F_Cc) (N := 7) hx hb hts i_Cc hown hK hP 0 rfl rfl 5 (by decide) (hts _ m_211) (fun _ h9 => h9) rfl d_Cc_count_81 ?_
    refine va_getN (ci := 5) (v := .int (gSh 0 3)) (C := R_Sh) (T := F_Sh) (N := 4) hx hb hts i_Sh hown hK hP 25 rfl rfl 3 (by decide) (va_Nw.use rfl (hE.1 _ (List.mem_of_getElem? (i := 6) rfl))) (fun _ h9 => h9) rfl d_Cc_count_84 ?_
    cases h
  rw [if_neg c_8] at h
  have qc_1 := lv_neT c_1 (show (0 : Int32).toInt = 0 by decide)
  have qc_2 := lv_neT c_2 (show (1 : Int32).toInt = 1 by decide)
  have qc_3 := lv_neT c_3 (show (2 : Int32).toInt = 2 by decide)
  have qc_6 := lv_neT c_6 (show (3 : Int32).toInt = 3 by decide)
  have qc_7 := lv_neT c_7 (show (4 : Int32).toInt = 4 by decide)
  have qc_8 := lv_neT c_8 (show (5 : Int32).toInt = 5 by decide)
  refine lv_tableOut (tgt := 88) hx hb d_Cc_count_1 (by omega) (by decide) ?_
  cases h
  rw [hQ]
  exact x_new C0 hAe hltr hno hlk hP hD hS hl.1 t_Cc_149 d_Cc_count_88 d_Cc_count_91 d_Cc_count_92 d_Cc_count_94 d_Cc_count_97 ⟨by decide, Nat.le_of_ble_eq_true rfl, by decide, by decide⟩
