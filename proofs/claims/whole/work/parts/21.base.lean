abbrev rm_Cc_requireRoom_r : Room := { frames := 0, cells := 0, slots := 0, locals := 0 }
set_option maxRecDepth 100000 in
set_option maxHeartbeats 4000000 in
theorem c_Cc_requireRoom_r (l : Launch) (D : va_G) (cI cZ cJ : ClassId)  (sz : Nat)  (p1 : Int32) (p2 : Int32)  (h : f_Cc_requireRoom p1 p2 = some (.inl ())) : MV l y_Cc_requireRoom b_Cc_requireRoom 2 (Option.none : Option Jvm.ClassFile.FieldType) rm_Cc_requireRoom_r D (TYS cI cZ cJ) [.int p1, .int p2] ([] : va_W) sz ([] : va_W) := by
  refine mv_start (own := R_Cc) (by decide +kernel) rfl (Nat.le_of_ble_eq_true rfl) (fun p e s m args below meth c A ls C0 hr hlk hP hD hS hl => ?_)
  obtain ⟨Q, hQ⟩ : ∃ Q, Q = QV below D (TYS cI cZ cJ) A ([] : va_W) args s := ⟨_, rfl⟩
  rw [← hQ]
  obtain ⟨hx, hb, -, hown, hts, hK, hE, -⟩ := id C0
  have hl : lv_has ls 2 [(0, .int p1), (1, .int p2)] := hl
  obtain ⟨H, hH⟩ : ∃ H, H = s.heap := ⟨_, rfl⟩
  have hP : va_P D vwCl ([] : va_W) H := by rw [hH]; exact hP
  have hS : va_S A s.heap H [] := by rw [hH]; exact hS
  rw [show W p l e rm_Cc_requireRoom_r s m args below meth c s.heap = W p l e rm_Cc_requireRoom_r s m args below meth c H by rw [hH]]
  generalize ([] : List Loc) = locs at hS ⊢
  unfold f_Cc_requireRoom at h
  refine lv_iload_n hx hb d_Cc_requireRoom_0 rfl (lv_at hl 0 rfl) ?_
  refine lv_iload_n hx hb d_Cc_requireRoom_1 rfl (lv_at hl 1 rfl) ?_
  refine lv_icmp_lt (tgt := 15) hx hb d_Cc_requireRoom_2 (by decide) (fun c_1 => ?_) (fun c_1 => ?_)
  · rw [if_pos c_1] at h
    cases h
    rw [hQ]
    exact mv_ret C0 hr hlk hP hD hS d_Cc_requireRoom_15
  · rw [if_neg c_1] at h
    cases h
abbrev rm_Cc_requireRoom_t : Room := { frames := 6, cells := 1, slots := 6, locals := 82 }
set_option maxRecDepth 100000 in
set_option maxHeartbeats 4000000 in
theorem c_Cc_requireRoom_t (l : Launch) (hltr : l.stackTraces = false) (D : va_G) (cI cZ cJ : ClassId)  (sz : Nat)  (p1 : Int32) (p2 : Int32) (E : String) (h : f_Cc_requireRoom p1 p2 = some (.inr E)) : MT l y_Cc_requireRoom b_Cc_requireRoom 2 (Option.none : Option Jvm.ClassFile.FieldType) rm_Cc_requireRoom_t D (TYS cI cZ cJ) [.int p1, .int p2] ([] : va_W) sz E := by
  refine mt_start (own := R_Cc) (by decide +kernel) rfl (Nat.le_of_ble_eq_true rfl) (fun p e s m args below meth c A ls C0 hAe hno hlk hP hD hS hl => ?_)
  obtain ⟨Q, hQ⟩ : ∃ Q, Q = QT below D (TYS cI cZ cJ) ([] : va_W) E args s := ⟨_, rfl⟩
  rw [← hQ]
  obtain ⟨hx, hb, -, hown, hts, hK, hE, -⟩ := id C0
  have hl : lv_has ls 2 [(0, .int p1), (1, .int p2)] := hl
  obtain ⟨H, hH⟩ : ∃ H, H = s.heap := ⟨_, rfl⟩
  have hP : va_P D vwCl ([] : va_W) H := by rw [hH]; exact hP
  have hS : va_S A s.heap H [] := by rw [hH]; exact hS
  rw [show W p l e rm_Cc_requireRoom_t s m args below meth c s.heap = W p l e rm_Cc_requireRoom_t s m args below meth c H by rw [hH]]
  generalize ([] : List Loc) = locs at hS ⊢
  unfold f_Cc_requireRoom at h
  refine lv_iload_n hx hb d_Cc_requireRoom_0 rfl (lv_at hl 0 rfl) ?_
  refine lv_iload_n hx hb d_Cc_requireRoom_1 rfl (lv_at hl 1 rfl) ?_
  refine lv_icmp_lt (tgt := 15) hx hb d_Cc_requireRoom_2 (by decide) (fun c_1 => ?_) (fun c_1 => ?_)
  · rw [if_pos c_1] at h
    cases h
  · rw [if_neg c_1] at h
    cases h
    rw [hQ]
    exact x_new C0 hAe hltr hno hlk hP hD hS hl.1 t_Cc_163 d_Cc_requireRoom_5 d_Cc_requireRoom_8 d_Cc_requireRoom_9 d_Cc_requireRoom_11 d_Cc_requireRoom_14 ⟨by decide, Nat.le_of_ble_eq_true rfl, by decide, by decide⟩
abbrev rm_Cc_requireRange_r : Room := { frames := 0, cells := 0, slots := 0, locals := 0 }
set_option maxRecDepth 100000 in
set_option maxHeartbeats 4000000 in
theorem c_Cc_requireRange_r (l : Launch) (D : va_G) (cI cZ cJ : ClassId)  (sz : Nat)  (p1 : Int32) (p2 : Int32) (p3 : Int32)  (h : f_Cc_requireRange p1 p2 p3 = some (.inl ())) : MV l y_Cc_requireRange b_Cc_requireRange 3 (Option.none : Option Jvm.ClassFile.FieldType) rm_Cc_requireRange_r D (TYS cI cZ cJ) [.int p1, .int p2, .int p3] ([] : va_W) sz ([] : va_W) := by
  refine mv_start (own := R_Cc) (by decide +kernel) rfl (Nat.le_of_ble_eq_true rfl) (fun p e s m args below meth c A ls C0 hr hlk hP hD hS hl => ?_)
  obtain ⟨Q, hQ⟩ : ∃ Q, Q = QV below D (TYS cI cZ cJ) A ([] : va_W) args s := ⟨_, rfl⟩
  rw [← hQ]
  obtain ⟨hx, hb, -, hown, hts, hK, hE, -⟩ := id C0
  have hl : lv_has ls 3 [(0, .int p1), (1, .int p2), (2, .int p3)] := hl
  obtain ⟨H, hH⟩ : ∃ H, H = s.heap := ⟨_, rfl⟩
  have hP : va_P D vwCl ([] : va_W) H := by rw [hH]; exact hP
  have hS : va_S A s.heap H [] := by rw [hH]; exact hS
  rw [show W p l e rm_Cc_requireRange_r s m args below meth c s.heap = W p l e rm_Cc_requireRange_r s m args below meth c H by rw [hH]]
  generalize ([] : List Loc) = locs at hS ⊢
  unfold f_Cc_requireRange at h
  refine lv_iload_n hx hb d_Cc_requireRange_0 rfl (lv_at hl 0 rfl) ?_
  refine lv_iload_n hx hb d_Cc_requireRange_1 rfl (lv_at hl 1 rfl) ?_
  have K10 : ∀ (H : Heap) (locs : List Loc) (ls : Array Slot), va_P D vwCl ([] : va_W) H → va_D A ([] : va_W) → va_S A s.heap H locs → lv_has ls 3 [(0, .int p1), (1, .int p2), (2, .int p3)] → f_Cc_requireRange_J10  = some (.inl ()) → W p l e rm_Cc_requireRange_r s m args below meth c H locs 0 0 Q (F0 m 10 ls []) := by
    intro  H locs ls hP hD hS hl h
    unfold f_Cc_requireRange_J10 at h
    cases h
  refine lv_icmp_lt (tgt := 10) hx hb d_Cc_requireRange_2 (by decide) (fun c_1 => ?_) (fun c_1 => ?_)
  · rw [if_pos c_1] at h
    exact K10  H locs ls hP hD hS (lv_sub hl [0, 1, 2] rfl) h
  · rw [if_neg c_1] at h
    refine lv_iload_n hx hb d_Cc_requireRange_5 rfl (lv_at hl 0 rfl) ?_
    refine lv_iload_n hx hb d_Cc_requireRange_6 rfl (lv_at hl 2 rfl) ?_
    refine lv_icmp_le (tgt := 20) hx hb d_Cc_requireRange_7 (by decide) (fun c_2 => ?_) (fun c_2 => ?_)
    · rw [if_pos c_2] at h
      cases h
      rw [hQ]
      exact mv_ret C0 hr hlk hP hD hS d_Cc_requireRange_20
    · rw [if_neg c_2] at h
      exact K10  H locs ls hP hD hS (lv_sub hl [0, 1, 2] rfl) h
abbrev rm_Cc_requireRange_t : Room := { frames := 6, cells := 1, slots := 6, locals := 82 }
set_option maxRecDepth 100000 in
set_option maxHeartbeats 4000000 in
theorem c_Cc_requireRange_t (l : Launch) (hltr : l.stackTraces = false) (D : va_G) (cI cZ cJ : ClassId)  (sz : Nat)  (p1 : Int32) (p2 : Int32) (p3 : Int32) (E : String) (h : f_Cc_requireRange p1 p2 p3 = some (.inr E)) : MT l y_Cc_requireRange b_Cc_requireRange 3 (Option.none : Option Jvm.ClassFile.FieldType) rm_Cc_requireRange_t D (TYS cI cZ cJ) [.int p1, .int p2, .int p3] ([] : va_W) sz E := by
  refine mt_start (own := R_Cc) (by decide +kernel) rfl (Nat.le_of_ble_eq_true rfl) (fun p e s m args below meth c A ls C0 hAe hno hlk hP hD hS hl => ?_)
  obtain ⟨Q, hQ⟩ : ∃ Q, Q = QT below D (TYS cI cZ cJ) ([] : va_W) E args s := ⟨_, rfl⟩
  rw [← hQ]
  obtain ⟨hx, hb, -, hown, hts, hK, hE, -⟩ := id C0
  have hl : lv_has ls 3 [(0, .int p1), (1, .int p2), (2, .int p3)] := hl
  obtain ⟨H, hH⟩ : ∃ H, H = s.heap := ⟨_, rfl⟩
  have hP : va_P D vwCl ([] : va_W) H := by rw [hH]; exact hP
  have hS : va_S A s.heap H [] := by rw [hH]; exact hS
  rw [show W p l e rm_Cc_requireRange_t s m args below meth c s.heap = W p l e rm_Cc_requireRange_t s m args below meth c H by rw [hH]]
  generalize ([] : List Loc) = locs at hS ⊢
  unfold f_Cc_requireRange at h
  refine lv_iload_n hx hb d_Cc_requireRange_0 rfl (lv_at hl 0 rfl) ?_
  refine lv_iload_n hx hb d_Cc_requireRange_1 rfl (lv_at hl 1 rfl) ?_
  have K10 : ∀ (H : Heap) (locs : List Loc) (ls : Array Slot), va_P D vwCl ([] : va_W) H → va_D A ([] : va_W) → va_S A s.heap H locs → lv_has ls 3 [(0, .int p1), (1, .int p2), (2, .int p3)] → f_Cc_requireRange_J10  = some (.inr E) → W p l e rm_Cc_requireRange_t s m args below meth c H locs 0 0 Q (F0 m 10 ls []) := by
    intro  H locs ls hP hD hS hl h
    unfold f_Cc_requireRange_J10 at h
    cases h
    rw [hQ]
    exact x_new C0 hAe hltr hno hlk hP hD hS hl.1 t_Cc_158 d_Cc_requireRange_10 d_Cc_requireRange_13 d_Cc_requireRange_14 d_Cc_requireRange_16 d_Cc_requireRange_19 ⟨by decide, Nat.le_of_ble_eq_true rfl, by decide, by decide⟩
  refine lv_icmp_lt (tgt := 10) hx hb d_Cc_requireRange_2 (by decide) (fun c_1 => ?_) (fun c_1 => ?_)
  · rw [if_pos c_1] at h
    exact K10  H locs ls hP hD hS (lv_sub hl [0, 1, 2] rfl) h
  · rw [if_neg c_1] at h
    refine lv_iload_n hx hb d_Cc_requireRange_5 rfl (lv_at hl 0 rfl) ?_
    refine lv_iload_n hx hb d_Cc_requireRange_6 rfl (lv_at hl 2 rfl) ?_
    refine lv_icmp_le (tgt := 20) hx hb d_Cc_requireRange_7 (by decide) (fun c_2 => ?_) (fun c_2 => ?_)
    · rw [if_pos c_2] at h
      cases h
    · rw [if_neg c_2] at h
      exact K10  H locs ls hP hD hS (lv_sub hl [0, 1, 2] rfl) h
abbrev rm_Cc_requireIndex_r : Room := { frames := 0, cells := 0, slots := 0, locals := 0 }
set_option maxRecDepth 100000 in
set_option maxHeartbeats 4000000 in
theorem c_Cc_requireIndex_r (l : Launch) (D : va_G) (cI cZ cJ : ClassId)  (sz : Nat)  (p1 : Int32) (p2 : Int32)  (h : f_Cc_requireIndex p1 p2 = some (.inl ())) : MV l y_Cc_requireIndex b_Cc_requireIndex 2 (Option.none : Option Jvm.ClassFile.FieldType) rm_Cc_requireIndex_r D (TYS cI cZ cJ) [.int p1, .int p2] ([] : va_W) sz ([] : va_W) := by
  refine mv_start (own := R_Cc) (by decide +kernel) rfl (Nat.le_of_ble_eq_true rfl) (fun p e s m args below meth c A ls C0 hr hlk hP hD hS hl => ?_)
  obtain ⟨Q, hQ⟩ : ∃ Q, Q = QV below D (TYS cI cZ cJ) A ([] : va_W) args s := ⟨_, rfl⟩
  rw [← hQ]
  obtain ⟨hx, hb, -, hown, hts, hK, hE, -⟩ := id C0
  have hl : lv_has ls 2 [(0, .int p1), (1, .int p2)] := hl
  obtain ⟨H, hH⟩ : ∃ H, H = s.heap := ⟨_, rfl⟩
  have hP : va_P D vwCl ([] : va_W) H := by rw [hH]; exact hP
  have hS : va_S A s.heap H [] := by rw [hH]; exact hS
  rw [show W p l e rm_Cc_requireIndex_r s m args below meth c s.heap = W p l e rm_Cc_requireIndex_r s m args below meth c H by rw [hH]]
  generalize ([] : List Loc) = locs at hS ⊢
  unfold f_Cc_requireIndex at h
  refine lv_iload_n hx hb d_Cc_requireIndex_0 rfl (lv_at hl 0 rfl) ?_
  have K9 : ∀ (H : Heap) (locs : List Loc) (ls : Array Slot), va_P D vwCl ([] : va_W) H → va_D A ([] : va_W) → va_S A s.heap H locs → lv_has ls 2 [(0, .int p1), (1, .int p2)] → f_Cc_requireIndex_J9  = some (.inl ()) → W p l e rm_Cc_requireIndex_r s m args below meth c H locs 0 0 Q (F0 m 9 ls []) := by
    intro  H locs ls hP hD hS hl h
    unfold f_Cc_requireIndex_J9 at h
    cases h
  refine lv_if_lt (tgt := 9) hx hb d_Cc_requireIndex_1 (by decide) (fun c_1 => ?_) (fun c_1 => ?_)
  · rw [if_pos c_1] at h
    exact K9  H locs ls hP hD hS (lv_sub hl [0, 1] rfl) h
  · rw [if_neg c_1] at h
    refine lv_iload_n hx hb d_Cc_requireIndex_4 rfl (lv_at hl 0 rfl) ?_
    refine lv_iload_n hx hb d_Cc_requireIndex_5 rfl (lv_at hl 1 rfl) ?_
    refine lv_icmp_lt (tgt := 19) hx hb d_Cc_requireIndex_6 (by decide) (fun c_2 => ?_) (fun c_2 => ?_)
    · rw [if_pos c_2] at h
      cases h
      rw [hQ]
      exact mv_ret C0 hr hlk hP hD hS d_Cc_requireIndex_19
    · rw [if_neg c_2] at h
      exact K9  H locs ls hP hD hS (lv_sub hl [0, 1] rfl) h
abbrev rm_Cc_requireIndex_t : Room := { frames := 6, cells := 1, slots := 6, locals := 82 }
set_option maxRecDepth 100000 in
set_option maxHeartbeats 4000000 in
theorem c_Cc_requireIndex_t (l : Launch) (hltr : l.stackTraces = false) (D : va_G) (cI cZ cJ : ClassId)  (sz : Nat)  (p1 : Int32) (p2 : Int32) (E : String) (h : f_Cc_requireIndex p1 p2 = some (.inr E)) : MT l y_Cc_requireIndex b_Cc_requireIndex 2 (Option.none : Option Jvm.ClassFile.FieldType) rm_Cc_requireIndex_t D (TYS cI cZ cJ) [.int p1, .int p2] ([] : va_W) sz E := by
  refine mt_start (own := R_Cc) (by decide +kernel) rfl (Nat.le_of_ble_eq_true rfl) (fun p e s m args below meth c A ls C0 hAe hno hlk hP hD hS hl => ?_)
  obtain ⟨Q, hQ⟩ : ∃ Q, Q = QT below D (TYS cI cZ cJ) ([] : va_W) E args s := ⟨_, rfl⟩
  rw [← hQ]
  obtain ⟨hx, hb, -, hown, hts, hK, hE, -⟩ := id C0
  have hl : lv_has ls 2 [(0, .int p1), (1, .int p2)] := hl
  obtain ⟨H, hH⟩ : ∃ H, H = s.heap := ⟨_, rfl⟩
  have hP : va_P D vwCl ([] : va_W) H := by rw [hH]; exact hP
  have hS : va_S A s.heap H [] := by rw [hH]; exact hS
  rw [show W p l e rm_Cc_requireIndex_t s m args below meth c s.heap = W p l e rm_Cc_requireIndex_t s m args below meth c H by rw [hH]]
  generalize ([] : List Loc) = locs at hS ⊢
  unfold f_Cc_requireIndex at h
  refine lv_iload_n hx hb d_Cc_requireIndex_0 rfl (lv_at hl 0 rfl) ?_
  have K9 : ∀ (H : Heap) (locs : List Loc) (ls : Array Slot), va_P D vwCl ([] : va_W) H → va_D A ([] : va_W) → va_S A s.heap H locs → lv_has ls 2 [(0, .int p1), (1, .int p2)] → f_Cc_requireIndex_J9  = some (.inr E) → W p l e rm_Cc_requireIndex_t s m args below meth c H locs 0 0 Q (F0 m 9 ls []) := by
    intro  H locs ls hP hD hS hl h
    unfold f_Cc_requireIndex_J9 at h
    cases h
    rw [hQ]
    exact x_new C0 hAe hltr hno hlk hP hD hS hl.1 t_Cc_154 d_Cc_requireIndex_9 d_Cc_requireIndex_12 d_Cc_requireIndex_13 d_Cc_requireIndex_15 d_Cc_requireIndex_18 ⟨by decide, Nat.le_of_ble_eq_true rfl, by decide, by decide⟩
  refine lv_if_lt (tgt := 9) hx hb d_Cc_requireIndex_1 (by decide) (fun c_1 => ?_) (fun c_1 => ?_)
  · rw [if_pos c_1] at h
    exact K9  H locs ls hP hD hS (lv_sub hl [0, 1] rfl) h
  · rw [if_neg c_1] at h
    refine lv_iload_n hx hb d_Cc_requireIndex_4 rfl (lv_at hl 0 rfl) ?_
    refine lv_iload_n hx hb d_Cc_requireIndex_5 rfl (lv_at hl 1 rfl) ?_
    refine lv_icmp_lt (tgt := 19) hx hb d_Cc_requireIndex_6 (by decide) (fun c_2 => ?_) (fun c_2 => ?_)
    · rw [if_pos c_2] at h
      cases h
    · rw [if_neg c_2] at h
      exact K9  H locs ls hP hD hS (lv_sub hl [0, 1] rfl) h
abbrev rm_Ma_floorDiv_r : Room := { frames := 0, cells := 0, slots := 0, locals := 0 }
set_option maxRecDepth 100000 in
set_option maxHeartbeats 4000000 in
theorem c_Ma_floorDiv_r (l : Launch) (D : va_G) (cI cZ cJ : ClassId)  (sz : Nat)  (p1 : Int32) (p2 : Int32) (r : Int32) (h : f_Ma_floorDiv p1 p2 = some r) : MI l y_Ma_floorDiv b_Ma_floorDiv 3 (some .int) rm_Ma_floorDiv_r D (TYS cI cZ cJ) [.int p1, .int p2] ([] : va_W) sz r ([] : va_W) := by
  refine mif_start (own := R_Ma) (by decide +kernel) rfl (Nat.le_of_ble_eq_true rfl) (fun p e s m args below meth c A ls C0 hr hlk hP hD hS hl => ?_)
  obtain ⟨Q, hQ⟩ : ∃ Q, Q = QI below D (TYS cI cZ cJ) A ([] : va_W) r args s := ⟨_, rfl⟩
  rw [← hQ]
  obtain ⟨hx, hb, -, hown, hts, hK, hE, -⟩ := id C0
  have hl : lv_has ls 3 [(0, .int p1), (1, .int p2)] := hl
  obtain ⟨H, hH⟩ : ∃ H, H = s.heap := ⟨_, rfl⟩
  have hP : va_P D vwCl ([] : va_W) H := by rw [hH]; exact hP
  have hS : va_S A s.heap H [] := by rw [hH]; exact hS
  rw [show W p l e rm_Ma_floorDiv_r s m args below meth c s.heap = W p l e rm_Ma_floorDiv_r s m args below meth c H by rw [hH]]
  generalize ([] : List Loc) = locs at hS ⊢
  unfold f_Ma_floorDiv at h
  refine lv_iload_n hx hb d_Ma_floorDiv_0 rfl (lv_at hl 0 rfl) ?_
  refine lv_iload_n hx hb d_Ma_floorDiv_1 rfl (lv_at hl 1 rfl) ?_
  obtain ⟨hz_1, h⟩ := gb_i h
  refine lv_idiv hx hb d_Ma_floorDiv_2 (nz_i hz_1) ?_
  obtain ⟨x_2, ex_2, h⟩ := letb_i h
  refine lv_topn ex_2 ?_
  refine lv_istore_n (lv' := [(2, .int x_2), (0, .int p1), (1, .int p2)]) hx hb d_Ma_floorDiv_3 rfl hl (by decide) rfl (fun ls hl => ?_)
  refine lv_iload_n hx hb d_Ma_floorDiv_4 rfl (lv_at hl 1 rfl) ?_
  refine lv_iload_n hx hb d_Ma_floorDiv_5 rfl (lv_at hl 2 rfl) ?_
  refine lv_ixor hx hb d_Ma_floorDiv_6 ?_
  refine lv_if_ge (tgt := 21) hx hb d_Ma_floorDiv_7 (by decide) (fun c_3 => ?_) (fun c_3 => ?_)
  · rw [if_pos c_3] at h
    refine lv_iload_n hx hb d_Ma_floorDiv_21 rfl (lv_at hl 0 rfl) ?_
    cases h
    rw [hQ]
    exact mi_ret C0 hr rfl hlk hP hD hS d_Ma_floorDiv_22
  · rw [if_neg c_3] at h
    refine lv_iload_n hx hb d_Ma_floorDiv_10 rfl (lv_at hl 0 rfl) ?_
    refine lv_iload_n hx hb d_Ma_floorDiv_11 rfl (lv_at hl 2 rfl) ?_
    refine lv_imul hx hb d_Ma_floorDiv_12 ?_
    refine lv_iload_n hx hb d_Ma_floorDiv_13 rfl (lv_at hl 1 rfl) ?_
    refine lv_icmp_eq (tgt := 21) hx hb d_Ma_floorDiv_14 (by decide) (fun c_4 => ?_) (fun c_4 => ?_)
    · rw [if_pos c_4] at h
      refine lv_iload_n hx hb d_Ma_floorDiv_21 rfl (lv_at hl 0 rfl) ?_
      cases h
      rw [hQ]
      exact mi_ret C0 hr rfl hlk hP hD hS d_Ma_floorDiv_22
    · rw [if_neg c_4] at h
      refine lv_iload_n hx hb d_Ma_floorDiv_17 rfl (lv_at hl 0 rfl) ?_
      refine lv_iconst (v := 1) hx hb d_Ma_floorDiv_18 (by decide) ?_
      refine lv_isub hx hb d_Ma_floorDiv_19 ?_
      cases h
      rw [hQ]
      exact mi_ret C0 hr rfl hlk hP hD hS d_Ma_floorDiv_20
abbrev rm_In_bitCount_r : Room := { frames := 0, cells := 0, slots := 0, locals := 0 }
set_option maxRecDepth 100000 in
set_option maxHeartbeats 4000000 in
theorem c_In_bitCount_r (l : Launch) (D : va_G) (cI cZ cJ : ClassId)  (sz : Nat)  (p1 : Int32) (r : Int32) (h : f_In_bitCount p1 = some r) : MI l y_In_bitCount b_In_bitCount 1 (some .int) rm_In_bitCount_r D (TYS cI cZ cJ) [.int p1] ([] : va_W) sz r ([] : va_W) := by
  refine mi_start (own := R_In) (by decide +kernel) rfl (Nat.le_of_ble_eq_true rfl) (fun p e s m args below meth c A ls C0 hr hlk hP hD hS hl => ?_)
  obtain ⟨Q, hQ⟩ : ∃ Q, Q = QI below D (TYS cI cZ cJ) A ([] : va_W) r args s := ⟨_, rfl⟩
  rw [← hQ]
  obtain ⟨hx, hb, -, hown, hts, hK, hE, -⟩ := id C0
  have hl : lv_has ls 1 [(0, .int p1)] := hl
  obtain ⟨H, hH⟩ : ∃ H, H = s.heap := ⟨_, rfl⟩
  have hP : va_P D vwCl ([] : va_W) H := by rw [hH]; exact hP
  have hS : va_S A s.heap H [] := by rw [hH]; exact hS
  rw [show W p l e rm_In_bitCount_r s m args below meth c s.heap = W p l e rm_In_bitCount_r s m args below meth c H by rw [hH]]
  generalize ([] : List Loc) = locs at hS ⊢
  unfold f_In_bitCount at h
  refine lv_iload_n hx hb d_In_bitCount_0 rfl (lv_at hl 0 rfl) ?_
  refine lv_iload_n hx hb d_In_bitCount_1 rfl (lv_at hl 0 rfl) ?_
  refine lv_iconst (v := 1) hx hb d_In_bitCount_2 (by decide) ?_
  refine lv_iushr (v := ((p1 : Int32).toUInt32 >>> ((1 : Int32).toUInt32 &&& Int32.toUInt32 31)).toInt32) hx hb d_In_bitCount_3 rfl ?_
  refine lv_ldcw hx hb hown (hts _ m_489) d_In_bitCount_4 ?_
  refine lv_iand hx hb d_In_bitCount_7 ?_
  refine lv_isub hx hb d_In_bitCount_8 ?_
  obtain ⟨x_1, ex_1, h⟩ := letb_i h
  refine lv_topn ex_1 ?_
  refine lv_istore_n (lv' := [(0, .int x_1)]) hx hb d_In_bitCount_9 rfl hl (by decide) rfl (fun ls hl => ?_)
  refine lv_iload_n hx hb d_In_bitCount_10 rfl (lv_at hl 0 rfl) ?_
  refine lv_ldcw hx hb hown (hts _ m_490) d_In_bitCount_11 ?_
  refine lv_iand hx hb d_In_bitCount_14 ?_
  refine lv_iload_n hx hb d_In_bitCount_15 rfl (lv_at hl 0 rfl) ?_
  refine lv_iconst (v := 2) hx hb d_In_bitCount_16 (by decide) ?_
  refine lv_iushr (v := ((x_1 : Int32).toUInt32 >>> ((2 : Int32).toUInt32 &&& Int32.toUInt32 31)).toInt32) hx hb d_In_bitCount_17 rfl ?_
  refine lv_ldcw hx hb hown (hts _ m_490) d_In_bitCount_18 ?_
  refine lv_iand hx hb d_In_bitCount_21 ?_
  refine lv_iadd hx hb d_In_bitCount_22 ?_
  obtain ⟨x_2, ex_2, h⟩ := letb_i h
  refine lv_topn ex_2 ?_
  refine lv_istore_n (lv' := [(0, .int x_2)]) hx hb d_In_bitCount_23 rfl hl (by decide) rfl (fun ls hl => ?_)
  refine lv_iload_n hx hb d_In_bitCount_24 rfl (lv_at hl 0 rfl) ?_
  refine lv_iload_n hx hb d_In_bitCount_25 rfl (lv_at hl 0 rfl) ?_
  refine lv_iconst (v := 4) hx hb d_In_bitCount_26 (by decide) ?_
  refine lv_iushr (v := ((x_2 : Int32).toUInt32 >>> ((4 : Int32).toUInt32 &&& Int32.toUInt32 31)).toInt32) hx hb d_In_bitCount_27 rfl ?_
  refine lv_iadd hx hb d_In_bitCount_28 ?_
  refine lv_ldcw hx hb hown (hts _ m_491) d_In_bitCount_29 ?_
  refine lv_iand hx hb d_In_bitCount_32 ?_
  obtain ⟨x_3, ex_3, h⟩ := letb_i h
  refine lv_topn ex_3 ?_
  refine lv_istore_n (lv' := [(0, .int x_3)]) hx hb d_In_bitCount_33 rfl hl (by decide) rfl (fun ls hl => ?_)
  refine lv_iload_n hx hb d_In_bitCount_34 rfl (lv_at hl 0 rfl) ?_
  refine lv_iload_n hx hb d_In_bitCount_35 rfl (lv_at hl 0 rfl) ?_
  refine lv_bipush (v := 8) hx hb d_In_bitCount_36 (by decide) ?_
  refine lv_iushr (v := ((x_3 : Int32).toUInt32 >>> ((8 : Int32).toUInt32 &&& Int32.toUInt32 31)).toInt32) hx hb d_In_bitCount_38 rfl ?_
  refine lv_iadd hx hb d_In_bitCount_39 ?_
  obtain ⟨x_4, ex_4, h⟩ := letb_i h
  refine lv_topn ex_4 ?_
  refine lv_istore_n (lv' := [(0, .int x_4)]) hx hb d_In_bitCount_40 rfl hl (by decide) rfl (fun ls hl => ?_)
  refine lv_iload_n hx hb d_In_bitCount_41 rfl (lv_at hl 0 rfl) ?_
  refine lv_iload_n hx hb d_In_bitCount_42 rfl (lv_at hl 0 rfl) ?_
  refine lv_bipush (v := 16) hx hb d_In_bitCount_43 (by decide) ?_
  refine lv_iushr (v := ((x_4 : Int32).toUInt32 >>> ((16 : Int32).toUInt32 &&& Int32.toUInt32 31)).toInt32) hx hb d_In_bitCount_45 rfl ?_
  refine lv_iadd hx hb d_In_bitCount_46 ?_
  obtain ⟨x_5, ex_5, h⟩ := letb_i h
  refine lv_topn ex_5 ?_
  refine lv_istore_n (lv' := [(0, .int x_5)]) hx hb d_In_bitCount_47 rfl hl (by decide) rfl (fun ls hl => ?_)
  refine lv_iload_n hx hb d_In_bitCount_48 rfl (lv_at hl 0 rfl) ?_
  refine lv_bipush (v := 63) hx hb d_In_bitCount_49 (by decide) ?_
  refine lv_iand hx hb d_In_bitCount_51 ?_
  cases h
  rw [hQ]
  exact mi_ret C0 hr rfl hlk hP hD hS d_In_bitCount_52
abbrev rm_Ma_max_r : Room := { frames := 0, cells := 0, slots := 0, locals := 0 }
set_option maxRecDepth 100000 in
set_option maxHeartbeats 4000000 in
theorem c_Ma_max_r (l : Launch) (D : va_G) (cI cZ cJ : ClassId)  (sz : Nat)  (p1 : Int32) (p2 : Int32) (r : Int32) (h : f_Ma_max p1 p2 = some r) : MI l y_Ma_max b_Ma_max 2 (some .int) rm_Ma_max_r D (TYS cI cZ cJ) [.int p1, .int p2] ([] : va_W) sz r ([] : va_W) := by
  refine mif_start (own := R_Ma) (by decide +kernel) rfl (Nat.le_of_ble_eq_true rfl) (fun p e s m args below meth c A ls C0 hr hlk hP hD hS hl => ?_)
  obtain ⟨Q, hQ⟩ : ∃ Q, Q = QI below D (TYS cI cZ cJ) A ([] : va_W) r args s := ⟨_, rfl⟩
  rw [← hQ]
  obtain ⟨hx, hb, -, hown, hts, hK, hE, -⟩ := id C0
  have hl : lv_has ls 2 [(0, .int p1), (1, .int p2)] := hl
  obtain ⟨H, hH⟩ : ∃ H, H = s.heap := ⟨_, rfl⟩
  have hP : va_P D vwCl ([] : va_W) H := by rw [hH]; exact hP
  have hS : va_S A s.heap H [] := by rw [hH]; exact hS
  rw [show W p l e rm_Ma_max_r s m args below meth c s.heap = W p l e rm_Ma_max_r s m args below meth c H by rw [hH]]
  generalize ([] : List Loc) = locs at hS ⊢
  unfold f_Ma_max at h
  refine lv_iload_n hx hb d_Ma_max_0 rfl (lv_at hl 0 rfl) ?_
  refine lv_iload_n hx hb d_Ma_max_1 rfl (lv_at hl 1 rfl) ?_
  refine lv_icmp_lt (tgt := 9) hx hb d_Ma_max_2 (by decide) (fun c_1 => ?_) (fun c_1 => ?_)
  · rw [if_pos c_1] at h
    refine lv_iload_n hx hb d_Ma_max_9 rfl (lv_at hl 1 rfl) ?_
    cases h
    rw [hQ]
    exact mi_ret C0 hr rfl hlk hP hD hS d_Ma_max_10
  · rw [if_neg c_1] at h
    refine lv_iload_n hx hb d_Ma_max_5 rfl (lv_at hl 0 rfl) ?_
    refine lv_goto (tgt := 10) hx hb d_Ma_max_6 (by decide) ?_
    cases h
    rw [hQ]
    exact mi_ret C0 hr rfl hlk hP hD hS d_Ma_max_10
