abbrev rm_Pk_isIn_r : Room := { frames := 0, cells := 0, slots := 0, locals := 0 }
set_option maxRecDepth 100000 in
set_option maxHeartbeats 4000000 in
theorem c_Pk_isIn_r (l : Launch) (D : va_G) (cI cZ cJ : ClassId)  (sz : Nat)  (p1 : Int32) (p2 : Int32) (r : Int32) (h : f_Pk_isIn p1 p2 = some r) : MI l y_Pk_isIn b_Pk_isIn 2 (some .boolean) rm_Pk_isIn_r D (TYS cI cZ cJ) [.int p1, .int p2] ([] : va_W) sz r ([] : va_W) := by
  refine mi_start (own := R_Pk) (by decide +kernel) rfl (Nat.le_of_ble_eq_true rfl) (fun p e s m args below meth c A ls C0 hr hlk hP hD hS hl => ?_)
  obtain ⟨Q, hQ⟩ : ∃ Q, Q = QI below D (TYS cI cZ cJ) A ([] : va_W) r args s := ⟨_, rfl⟩
  rw [← hQ]
  obtain ⟨hx, hb, -, hown, hts, hK, hE, -⟩ := id C0
  have hl : lv_has ls 2 [(0, .int p1), (1, .int p2)] := hl
  obtain ⟨H, hH⟩ : ∃ H, H = s.heap := ⟨_, rfl⟩
  have hP : va_P D vwCl ([] : va_W) H := by rw [hH]; exact hP
  have hS : va_S A s.heap H [] := by rw [hH]; exact hS
  rw [show W p l e rm_Pk_isIn_r s m args below meth c s.heap = W p l e rm_Pk_isIn_r s m args below meth c H by rw [hH]]
  generalize ([] : List Loc) = locs at hS ⊢
  unfold f_Pk_isIn at h
  refine lv_iload_n hx hb d_Pk_isIn_0 rfl (lv_at hl 0 rfl) ?_
  refine lv_iload_n hx hb d_Pk_isIn_1 rfl (lv_at hl 1 rfl) ?_
  refine lv_ishr hx hb d_Pk_isIn_2 ?_
  refine lv_iconst (v := 1) hx hb d_Pk_isIn_3 (by decide) ?_
  refine lv_iand hx hb d_Pk_isIn_4 ?_
  refine lv_if_eq (tgt := 12) hx hb d_Pk_isIn_5 (by decide) (fun c_1 => ?_) (fun c_1 => ?_)
  · rw [if_pos c_1] at h
    refine lv_iconst (v := 0) hx hb d_Pk_isIn_12 (by decide) ?_
    cases h
    rw [hQ]
    exact mi_ret C0 hr rfl hlk hP hD hS d_Pk_isIn_13
  · rw [if_neg c_1] at h
    refine lv_iconst (v := 1) hx hb d_Pk_isIn_8 (by decide) ?_
    refine lv_goto (tgt := 13) hx hb d_Pk_isIn_9 (by decide) ?_
    cases h
    rw [hQ]
    exact mi_ret C0 hr rfl hlk hP hD hS d_Pk_isIn_13
abbrev rm_Pk_triedIsLower_r : Room := { frames := 0, cells := 0, slots := 0, locals := 0 }
set_option maxRecDepth 100000 in
set_option maxHeartbeats 4000000 in
theorem c_Pk_triedIsLower_r (l : Launch) (D : va_G) (cI cZ cJ : ClassId) (xPk : Nat → Nat) (sz : Nat) (gPk : St) (qPk : Int64)  (r : Int32) (h : f_Pk_triedIsLower gPk qPk = some r) : MI l y_Pk_triedIsLower b_Pk_triedIsLower 2 (some .boolean) rm_Pk_triedIsLower_r D (TYS cI cZ cJ) [.ref (xPk 0)] (wPk xPk cI cZ gPk qPk) sz r (wPk xPk cI cZ gPk qPk) := by
  refine mi_start (own := R_Pk) (by decide +kernel) rfl (Nat.le_of_ble_eq_true rfl) (fun p e s m args below meth c A ls C0 hr hlk hP hD hS hl => ?_)
  obtain ⟨Q, hQ⟩ : ∃ Q, Q = QI below D (TYS cI cZ cJ) A (wPk xPk cI cZ gPk qPk) r args s := ⟨_, rfl⟩
  rw [← hQ]
  obtain ⟨hx, hb, -, hown, hts, hK, hE, -⟩ := id C0
  have hl : lv_has ls 2 [(0, .ref (xPk 0))] := hl
  obtain ⟨H, hH⟩ : ∃ H, H = s.heap := ⟨_, rfl⟩
  have hP : va_P D vwCl (wPk xPk cI cZ gPk qPk) H := by rw [hH]; exact hP
  have hS : va_S A s.heap H [] := by rw [hH]; exact hS
  rw [show W p l e rm_Pk_triedIsLower_r s m args below meth c s.heap = W p l e rm_Pk_triedIsLower_r s m args below meth c H by rw [hH]]
  generalize ([] : List Loc) = locs at hS ⊢
  unfold f_Pk_triedIsLower at h
  refine lv_iconst (v := 0) hx hb d_Pk_triedIsLower_0 (by decide) ?_
  refine lv_istore_n (lv' := [(1, .int 0), (0, .ref (xPk 0))]) hx hb d_Pk_triedIsLower_1 rfl hl (by decide) rfl (fun ls hl => ?_)
  have K50 : ∀ (v1_50 : Int32) (H : Heap) (locs : List Loc) (ls : Array Slot), va_P D vwCl (wPk xPk cI cZ gPk qPk) H → va_D A (wPk xPk cI cZ gPk qPk) → va_S A s.heap H locs → lv_has ls 2 [(0, .ref (xPk 0)), (1, .int v1_50)] → f_Pk_triedIsLower_X50 v1_50 = some r → W p l e rm_Pk_triedIsLower_r s m args below meth c H locs 0 0 Q (F0 m 50 ls []) := by
    intro v1_50 H locs ls hP hD hS hl h
    unfold f_Pk_triedIsLower_X50 at h
    refine lv_iconst (v := 0) hx hb d_Pk_triedIsLower_50 (by decide) ?_
    cases h
    rw [hQ]
    exact mi_ret C0 hr rfl hlk hP hD hS d_Pk_triedIsLower_51
  have K2 : ∀ (n : Nat) (v1_2 : Int32) (H : Heap) (locs : List Loc) (ls : Array Slot), va_P D vwCl (wPk xPk cI cZ gPk qPk) H → va_D A (wPk xPk cI cZ gPk qPk) → va_S A s.heap H locs → lv_has ls 2 [(0, .ref (xPk 0)), (1, .int v1_2)] → it1 (f_Pk_triedIsLower_L2 gPk) n v1_2 = some r → W p l e rm_Pk_triedIsLower_r s m args below meth c H locs 0 0 Q (F0 m 2 ls []) := by
    intro n
    induction n with
    | zero => intro v1_2 H locs ls hP hD hS hl h; exact (it1_0 h).elim
    | succ n ih =>
      intro v1_2 H locs ls hP hD hS hl h
      rw [it1_s, f_Pk_triedIsLower_L2] at h
      generalize it1 (f_Pk_triedIsLower_L2 gPk) n = kc_2 at h ih
      refine lv_iload_n hx hb d_Pk_triedIsLower_2 rfl (lv_at hl 1 rfl) ?_
      refine lv_bipush (v := 6) hx hb d_Pk_triedIsLower_3 (by decide) ?_
      refine lv_icmp_ge (tgt := 50) hx hb d_Pk_triedIsLower_5 (by decide) (fun c_1 => ?_) (fun c_1 => ?_)
      · rw [if_pos c_1] at h
        exact K50 v1_2 H locs ls hP hD hS (lv_sub hl [0, 1] rfl) h
      · rw [if_neg c_1] at h
        refine lv_aload_n hx hb d_Pk_triedIsLower_8 rfl (lv_at hl 0 rfl) ?_
        refine va_get (ci := 4) (v := .ref (xPk 4)) (C := R_Pk) (T := F_Pk) (N := 8) hx hb hts i_Pk hown hK hP 0 rfl rfl 3 (by decide) (hts _ m_109) (fun _ h9 => h9) rfl d_Pk_triedIsLower_9 ?_
        refine lv_iload_n hx hb d_Pk_triedIsLower_12 rfl (lv_at hl 1 rfl) ?_
        obtain ⟨hi_2, h⟩ := gb_i h
        refine va_iald hx hb hK hP 4 0 rfl rfl (inb_in hi_2) d_Pk_triedIsLower_13 ?_
        obtain ⟨x_3, ex_3, h⟩ := letb_i h
        refine lv_topn ex_3 ?_
        refine lv_aload_n hx hb d_Pk_triedIsLower_14 rfl (lv_at hl 0 rfl) ?_
        refine va_get (ci := 4) (v := .ref (xPk 2)) (C := R_Pk) (T := F_Pk) (N := 8) hx hb hts i_Pk hown hK hP 0 rfl rfl 1 (by decide) (hts _ m_107) (fun _ h9 => h9) rfl d_Pk_triedIsLower_15 ?_
        refine lv_iload_n hx hb d_Pk_triedIsLower_18 rfl (lv_at hl 1 rfl) ?_
        obtain ⟨hi_4, h⟩ := gb_i h
        refine va_iald hx hb hK hP 2 0 rfl rfl (inb_in hi_4) d_Pk_triedIsLower_19 ?_
        obtain ⟨x_5, ex_5, h⟩ := letb_i h
        refine lv_topn ex_5 ?_
        refine lv_icmp_eq (tgt := 44) hx hb d_Pk_triedIsLower_20 (by decide) (fun c_6 => ?_) (fun c_6 => ?_)
        · rw [if_pos c_6] at h
          obtain ⟨x_7, ex_7, h⟩ := letb_i h
          refine lv_iinc (v := x_7) (lv' := [(1, .int x_7), (0, .ref (xPk 0))]) hx hb d_Pk_triedIsLower_44 hl (k := 1) rfl (by rw [ex_7]; rfl) (by decide) rfl (fun ls hl => ?_)
          refine lv_goto (tgt := 2) hx hb d_Pk_triedIsLower_47 (by decide) ?_
          exact ih x_7 H locs ls hP hD hS (lv_sub hl [1, 0] rfl) h
        · rw [if_neg c_6] at h
          refine lv_aload_n hx hb d_Pk_triedIsLower_23 rfl (lv_at hl 0 rfl) ?_
          refine va_get (ci := 4) (v := .ref (xPk 4)) (C := R_Pk) (T := F_Pk) (N := 8) hx hb hts i_Pk hown hK hP 0 rfl rfl 3 (by decide) (hts _ m_109) (fun _ h9 => h9) rfl d_Pk_triedIsLower_24 ?_
          refine lv_iload_n hx hb d_Pk_triedIsLower_27 rfl (lv_at hl 1 rfl) ?_
          obtain ⟨hi_8, h⟩ := gb_i h
          refine va_iald hx hb hK hP 4 0 rfl rfl (inb_in hi_8) d_Pk_triedIsLower_28 ?_
          obtain ⟨x_9, ex_9, h⟩ := letb_i h
          refine lv_topn ex_9 ?_
          refine lv_aload_n hx hb d_Pk_triedIsLower_29 rfl (lv_at hl 0 rfl) ?_
          refine va_get (ci := 4) (v := .ref (xPk 2)) (C := R_Pk) (T := F_Pk) (N := 8) hx hb hts i_Pk hown hK hP 0 rfl rfl 1 (by decide) (hts _ m_107) (fun _ h9 => h9) rfl d_Pk_triedIsLower_30 ?_
          refine lv_iload_n hx hb d_Pk_triedIsLower_33 rfl (lv_at hl 1 rfl) ?_
          obtain ⟨hi_10, h⟩ := gb_i h
          refine va_iald hx hb hK hP 2 0 rfl rfl (inb_in hi_10) d_Pk_triedIsLower_34 ?_
          obtain ⟨x_11, ex_11, h⟩ := letb_i h
          refine lv_topn ex_11 ?_
          refine lv_icmp_ge (tgt := 42) hx hb d_Pk_triedIsLower_35 (by decide) (fun c_12 => ?_) (fun c_12 => ?_)
          · rw [if_pos c_12] at h
            refine lv_iconst (v := 0) hx hb d_Pk_triedIsLower_42 (by decide) ?_
            cases h
            rw [hQ]
            exact mi_ret C0 hr rfl hlk hP hD hS d_Pk_triedIsLower_43
          · rw [if_neg c_12] at h
            refine lv_iconst (v := 1) hx hb d_Pk_triedIsLower_38 (by decide) ?_
            refine lv_goto (tgt := 43) hx hb d_Pk_triedIsLower_39 (by decide) ?_
            cases h
            rw [hQ]
            exact mi_ret C0 hr rfl hlk hP hD hS d_Pk_triedIsLower_43
  exact K2 FU 0 H locs ls hP hD hS (lv_sub hl [1, 0] rfl) h
abbrev rm_Pk_keep_r : Room := { frames := 1, cells := 0, slots := 0, locals := 60 }
set_option maxRecDepth 100000 in
set_option maxHeartbeats 4000000 in
theorem c_Pk_keep_r (l : Launch) (D : va_G) (cI cZ cJ : ClassId) (xPk : Nat → Nat) (sz : Nat) (gPk : St) (qPk : Int64) (p1 : Int32) (p2 : Int32) (p3 : Int32) (gPk1 : St) (h : f_Pk_keep gPk qPk p1 p2 p3 = some gPk1) : MV l y_Pk_keep b_Pk_keep 4 (Option.none : Option Jvm.ClassFile.FieldType) rm_Pk_keep_r D (TYS cI cZ cJ) [.ref (xPk 0), .int p1, .int p2, .int p3] (wPk xPk cI cZ gPk qPk) sz (wPk xPk cI cZ gPk1 qPk) := by
  refine mv_start (own := R_Pk) (by decide +kernel) rfl (Nat.le_of_ble_eq_true rfl) (fun p e s m args below meth c A ls C0 hr hlk hP hD hS hl => ?_)
  obtain ⟨Q, hQ⟩ : ∃ Q, Q = QV below D (TYS cI cZ cJ) A (wPk xPk cI cZ gPk1 qPk) args s := ⟨_, rfl⟩
  rw [← hQ]
  obtain ⟨hx, hb, -, hown, hts, hK, hE, -⟩ := id C0
  have hl : lv_has ls 4 [(0, .ref (xPk 0)), (1, .int p1), (2, .int p2), (3, .int p3)] := hl
  obtain ⟨H, hH⟩ : ∃ H, H = s.heap := ⟨_, rfl⟩
  have hP : va_P D vwCl (wPk xPk cI cZ gPk qPk) H := by rw [hH]; exact hP
  have hS : va_S A s.heap H [] := by rw [hH]; exact hS
  rw [show W p l e rm_Pk_keep_r s m args below meth c s.heap = W p l e rm_Pk_keep_r s m args below meth c H by rw [hH]]
  generalize ([] : List Loc) = locs at hS ⊢
  unfold f_Pk_keep at h
  refine lv_aload_n hx hb d_Pk_keep_0 rfl (lv_at hl 0 rfl) ?_
  refine va_get (ci := 4) (v := .ref (xPk 1)) (C := R_Pk) (T := F_Pk) (N := 8) hx hb hts i_Pk hown hK hP 0 rfl rfl 0 (by decide) (hts _ m_106) (fun _ h9 => h9) rfl d_Pk_keep_1 ?_
  refine lv_iconst (v := 0) hx hb d_Pk_keep_4 (by decide) ?_
  refine lv_iload_n hx hb d_Pk_keep_5 rfl (lv_at hl 1 rfl) ?_
  refine va_iast hx hb hK hP hD hS 1 0 rfl rfl (inb_in (by decide)) d_Pk_keep_6 (fun H locs hP hD hS => ?_)
  obtain ⟨gPk_1, egPk_1, h⟩ := letb_i h
  have hP : va_P D vwCl (wPk xPk cI cZ gPk_1 qPk) H := by rw [egPk_1, u_Pk_1]; exact hP
  have hD : va_D A (wPk xPk cI cZ gPk_1 qPk) := by rw [egPk_1, u_Pk_1]; exact hD
  refine lv_aload_n hx hb d_Pk_keep_7 rfl (lv_at hl 0 rfl) ?_
  refine va_get (ci := 4) (v := .ref (xPk 1)) (C := R_Pk) (T := F_Pk) (N := 8) hx hb hts i_Pk hown hK hP 0 rfl rfl 0 (by decide) (hts _ m_106) (fun _ h9 => h9) rfl d_Pk_keep_8 ?_
  refine lv_iconst (v := 1) hx hb d_Pk_keep_11 (by decide) ?_
  refine lv_iload_n hx hb d_Pk_keep_12 rfl (lv_at hl 2 rfl) ?_
  refine va_iast hx hb hK hP hD hS 1 0 rfl rfl (inb_in (by decide)) d_Pk_keep_13 (fun H locs hP hD hS => ?_)
  obtain ⟨gPk_2, egPk_2, h⟩ := letb_i h
  have hP : va_P D vwCl (wPk xPk cI cZ gPk_2 qPk) H := by rw [egPk_2, u_Pk_1]; exact hP
  have hD : va_D A (wPk xPk cI cZ gPk_2 qPk) := by rw [egPk_2, u_Pk_1]; exact hD
  refine lv_aload_n hx hb d_Pk_keep_14 rfl (lv_at hl 0 rfl) ?_
  refine va_get (ci := 4) (v := .ref (xPk 1)) (C := R_Pk) (T := F_Pk) (N := 8) hx hb hts i_Pk hown hK hP 0 rfl rfl 0 (by decide) (hts _ m_106) (fun _ h9 => h9) rfl d_Pk_keep_15 ?_
  refine lv_iconst (v := 2) hx hb d_Pk_keep_18 (by decide) ?_
  refine lv_iload_n hx hb d_Pk_keep_19 rfl (lv_at hl 3 rfl) ?_
  refine va_iast hx hb hK hP hD hS 1 0 rfl rfl (inb_in (by decide)) d_Pk_keep_20 (fun H locs hP hD hS => ?_)
  obtain ⟨gPk_3, egPk_3, h⟩ := letb_i h
  have hP : va_P D vwCl (wPk xPk cI cZ gPk_3 qPk) H := by rw [egPk_3, u_Pk_1]; exact hP
  have hD : va_D A (wPk xPk cI cZ gPk_3 qPk) := by rw [egPk_3, u_Pk_1]; exact hD
  refine lv_aload_n hx hb d_Pk_keep_21 rfl (lv_at hl 0 rfl) ?_
  refine va_get (ci := 4) (v := .ref (xPk 4)) (C := R_Pk) (T := F_Pk) (N := 8) hx hb hts i_Pk hown hK hP 0 rfl rfl 3 (by decide) (hts _ m_109) (fun _ h9 => h9) rfl d_Pk_keep_22 ?_
  refine lv_iconst (v := 0) hx hb d_Pk_keep_25 (by decide) ?_
  refine lv_aload_n hx hb d_Pk_keep_26 rfl (lv_at hl 0 rfl) ?_
  refine va_get (ci := 4) (v := .ref (xPk 2)) (C := R_Pk) (T := F_Pk) (N := 8) hx hb hts i_Pk hown hK hP 0 rfl rfl 1 (by decide) (hts _ m_107) (fun _ h9 => h9) rfl d_Pk_keep_27 ?_
  refine lv_iconst (v := 0) hx hb d_Pk_keep_30 (by decide) ?_
  refine lv_bipush (v := 6) hx hb d_Pk_keep_31 (by decide) ?_
  refine va_copyi hx hb (C0.2.2.1.trans hl.1.symm) hown (hts _ m_479) (hts _ m_481) (hts _ m_480) (hts _ m_39) hK hP hD hS 4 2 0 0 (ty := .int) rfl rfl rfl rfl rfl (by decide) (by decide) (by decide) (by decide) (by decide) (fun _ _ => rfl) (by decide) (by decide) d_Pk_keep_33 (fun H locs hP hD hS => ?_)
  obtain ⟨gPk_4, egPk_4, h⟩ := letb_i h
  have hP : va_P D vwCl (wPk xPk cI cZ gPk_4 qPk) H := by rw [egPk_4]; exact hP
  have hD : va_D A (wPk xPk cI cZ gPk_4 qPk) := by rw [egPk_4]; exact hD
  cases h
  rw [hQ]
  exact mv_ret C0 hr hlk hP hD hS d_Pk_keep_36
abbrev rm_Pk_tryWithin_r : Room := { frames := 2, cells := 0, slots := 0, locals := 83 }
set_option maxRecDepth 100000 in
set_option maxHeartbeats 4000000 in
theorem c_Pk_tryWithin_r (l : Launch) (D : va_G) (cI cZ cJ : ClassId) (xPk : Nat → Nat) (xGo : Nat → Nat) (sz : Nat) (gPk : St) (qPk : Int64) (gGo : St) (p1 : Int32) (p2 : Int32) (gPk1 : St) (qPk1 : Int64) (h : f_Pk_tryWithin gPk qPk gGo p1 p2 = some (gPk1, qPk1)) : MV l y_Pk_tryWithin b_Pk_tryWithin 7 (Option.none : Option Jvm.ClassFile.FieldType) rm_Pk_tryWithin_r D (TYS cI cZ cJ) [.ref (xPk 0), .ref (xGo 0), .int p1, .int p2] (wPk xPk cI cZ gPk qPk ++ wGo xGo cI cZ gGo) sz (wPk xPk cI cZ gPk1 qPk1 ++ wGo xGo cI cZ gGo) := by
  refine mv_start (own := R_Pk) (by decide +kernel) rfl (Nat.le_of_ble_eq_true rfl) (fun p e s m args below meth c A ls C0 hr hlk hP hD hS hl => ?_)
  obtain ⟨Q, hQ⟩ : ∃ Q, Q = QV below D (TYS cI cZ cJ) A (wPk xPk cI cZ gPk1 qPk1 ++ wGo xGo cI cZ gGo) args s := ⟨_, rfl⟩
  rw [← hQ]
  obtain ⟨hx, hb, -, hown, hts, hK, hE, -⟩ := id C0
  have hl : lv_has ls 7 [(0, .ref (xPk 0)), (1, .ref (xGo 0)), (2, .int p1), (3, .int p2)] := hl
  obtain ⟨H, hH⟩ : ∃ H, H = s.heap := ⟨_, rfl⟩
  have hP : va_P D vwCl (wPk xPk cI cZ gPk qPk ++ wGo xGo cI cZ gGo) H := by rw [hH]; exact hP
  have hS : va_S A s.heap H [] := by rw [hH]; exact hS
  rw [show W p l e rm_Pk_tryWithin_r s m args below meth c s.heap = W p l e rm_Pk_tryWithin_r s m args below meth c H by rw [hH]]
  generalize ([] : List Loc) = locs at hS ⊢
  unfold f_Pk_tryWithin at h
  refine lv_aload_n hx hb d_Pk_tryWithin_0 rfl (lv_at hl 0 rfl) ?_
  refine va_get (ci := 4) (v := .int (gPk 0 6)) (C := R_Pk) (T := F_Pk) (N := 8) hx hb hts i_Pk hown hK hP 0 rfl rfl 6 (by decide) (hts _ m_112) (fun _ h9 => h9) rfl d_Pk_tryWithin_1 ?_
  obtain ⟨x_1, ex_1, h⟩ := letb_i h
  refine lv_topn ex_1 ?_
  refine lv_istore (lv' := [(4, .int x_1), (0, .ref (xPk 0)), (1, .ref (xGo 0)), (2, .int p1), (3, .int p2)]) hx hb d_Pk_tryWithin_4 hl (by decide) rfl (fun ls hl => ?_)
  refine lv_iconst (v := 0) hx hb d_Pk_tryWithin_6 (by decide) ?_
  refine lv_istore (lv' := [(5, .int 0), (4, .int x_1), (0, .ref (xPk 0)), (1, .ref (xGo 0)), (2, .int p1), (3, .int p2)]) hx hb d_Pk_tryWithin_7 hl (by decide) rfl (fun ls hl => ?_)
  have K87 : ∀ (v4_87 : Int32) (v5_87 : Int32) (gPk_87 : St) (H : Heap) (locs : List Loc) (ls : Array Slot), va_P D vwCl (wPk xPk cI cZ gPk_87 qPk ++ wGo xGo cI cZ gGo) H → va_D A (wPk xPk cI cZ gPk_87 qPk ++ wGo xGo cI cZ gGo) → va_S A s.heap H locs → lv_has ls 7 [(0, .ref (xPk 0)), (1, .ref (xGo 0)), (2, .int p1), (3, .int p2), (4, .int v4_87), (5, .int v5_87)] → f_Pk_tryWithin_X87 qPk p1 p2 v4_87 v5_87 gPk_87 = some (gPk1, qPk1) → W p l e rm_Pk_tryWithin_r s m args below meth c H locs 0 0 Q (F0 m 87 ls []) := by
    intro v4_87 v5_87 gPk_87 H locs ls hP hD hS hl h
    unfold f_Pk_tryWithin_X87 at h
    refine lv_iload hx hb d_Pk_tryWithin_87 (lv_at hl 4 rfl) ?_
    refine lv_i2l (v := (v4_87 : Int32).toInt64) hx hb d_Pk_tryWithin_89 rfl ?_
    refine lv_iload_n hx hb d_Pk_tryWithin_90 rfl (lv_at hl 2 rfl) ?_
    refine lv_iconst (v := 2) hx hb d_Pk_tryWithin_91 (by decide) ?_
    refine lv_aload_n hx hb d_Pk_tryWithin_92 rfl (lv_at hl 0 rfl) ?_
    refine va_get (ci := 4) (v := .int (gPk_87 0 6)) (C := R_Pk) (T := F_Pk) (N := 8) hx hb hts i_Pk hown hK hP 0 rfl rfl 6 (by decide) (hts _ m_112) (fun _ h9 => h9) rfl d_Pk_tryWithin_93 ?_
    refine lv_imul hx hb d_Pk_tryWithin_96 ?_
    refine lv_iadd hx hb d_Pk_tryWithin_97 ?_
    refine lv_i2l (v := (p1 + (2 * (gPk_87 0 6)) : Int32).toInt64) hx hb d_Pk_tryWithin_98 rfl ?_
    refine lv_lmul hx hb d_Pk_tryWithin_99 ?_
    refine lv_iload_n hx hb d_Pk_tryWithin_100 rfl (lv_at hl 3 rfl) ?_
    refine lv_iconst (v := 2) hx hb d_Pk_tryWithin_101 (by decide) ?_
    refine lv_aload_n hx hb d_Pk_tryWithin_102 rfl (lv_at hl 0 rfl) ?_
    refine va_get (ci := 4) (v := .int (gPk_87 0 6)) (C := R_Pk) (T := F_Pk) (N := 8) hx hb hts i_Pk hown hK hP 0 rfl rfl 6 (by decide) (hts _ m_112) (fun _ h9 => h9) rfl d_Pk_tryWithin_103 ?_
    refine lv_imul hx hb d_Pk_tryWithin_106 ?_
    refine lv_iadd hx hb d_Pk_tryWithin_107 ?_
    refine lv_i2l (v := (p2 + (2 * (gPk_87 0 6)) : Int32).toInt64) hx hb d_Pk_tryWithin_108 rfl ?_
    refine lv_lmul hx hb d_Pk_tryWithin_109 ?_
    obtain ⟨x_2, ex_2, h⟩ := letb_i h
    refine lv_topnl ex_2 ?_
    refine lv_lstore (lv' := [(5, .long x_2), (0, .ref (xPk 0)), (1, .ref (xGo 0)), (2, .int p1), (3, .int p2), (4, .int v4_87)]) hx hb d_Pk_tryWithin_110 hl (by decide) rfl (fun ls hl => ?_)
    refine lv_lload hx hb d_Pk_tryWithin_112 (lv_at hl 0 rfl) ?_
    refine lv_aload_n hx hb d_Pk_tryWithin_114 rfl (lv_at hl 1 rfl) ?_
    refine va_get (ci := 4) (v := .long qPk) (C := R_Pk) (T := F_Pk) (N := 8) hx hb hts i_Pk hown hK hP 0 rfl rfl 7 (by decide) (hts _ m_113) (fun _ h9 => h9) rfl d_Pk_tryWithin_115 ?_
    refine W.lcmp hx hb d_Pk_tryWithin_118 ?_
    have K139 : ∀ (v4_139 : Int32) (v5_139 : Int64) (gPk_139 : St) (H : Heap) (locs : List Loc) (ls : Array Slot), va_P D vwCl (wPk xPk cI cZ gPk_139 qPk ++ wGo xGo cI cZ gGo) H → va_D A (wPk xPk cI cZ gPk_139 qPk ++ wGo xGo cI cZ gGo) → va_S A s.heap H locs → lv_has ls 7 [(0, .ref (xPk 0)), (1, .ref (xGo 0)), (2, .int p1), (3, .int p2), (4, .int v4_139), (5, .long v5_139)] → f_Pk_tryWithin_J139 p1 p2 v4_139 v5_139 gPk_139 = some (gPk1, qPk1) → W p l e rm_Pk_tryWithin_r s m args below meth c H locs 0 0 Q (F0 m 139 ls []) := by
      intro v4_139 v5_139 gPk_139 H locs ls hP hD hS hl h
      unfold f_Pk_tryWithin_J139 at h
      refine lv_aload_n hx hb d_Pk_tryWithin_139 rfl (lv_at hl 0 rfl) ?_
      refine lv_lload hx hb d_Pk_tryWithin_140 (lv_at hl 5 rfl) ?_
      refine va_put (ci := 4) (v := .long v5_139) (ty := .long) (C := R_Pk) (T := F_Pk) (N := 8) hx hb hts i_Pk t_Pk o_Pk n_Pk hown hK hP hD hS 0 rfl rfl 7 (by decide) (hts _ m_113) (fun _ h9 => h9) rfl (by decide +kernel) rfl rfl (Nat.le_of_ble_eq_true rfl) d_Pk_tryWithin_142 (fun H locs hP hD hS => ?_)
      obtain ⟨qPk_3, eqPk_3, h⟩ := letb_i h
      have hP : va_P D vwCl (wPk xPk cI cZ gPk_139 qPk_3 ++ wGo xGo cI cZ gGo) H := by rw [u_Pk_q (q := qPk), set_l (Nat.le_of_ble_eq_true rfl), eqPk_3]; exact hP
      have hD : va_D A (wPk xPk cI cZ gPk_139 qPk_3 ++ wGo xGo cI cZ gGo) := by rw [u_Pk_q (q := qPk), set_l (Nat.le_of_ble_eq_true rfl), eqPk_3]; exact hD
      refine lv_aload_n hx hb d_Pk_tryWithin_145 rfl (lv_at hl 0 rfl) ?_
      refine lv_iload hx hb d_Pk_tryWithin_146 (lv_at hl 4 rfl) ?_
      refine lv_iload_n hx hb d_Pk_tryWithin_148 rfl (lv_at hl 2 rfl) ?_
      refine lv_iconst (v := 2) hx hb d_Pk_tryWithin_149 (by decide) ?_
      refine lv_aload_n hx hb d_Pk_tryWithin_150 rfl (lv_at hl 0 rfl) ?_
      refine va_get (ci := 4) (v := .int (gPk_139 0 6)) (C := R_Pk) (T := F_Pk) (N := 8) hx hb hts i_Pk hown hK hP 0 rfl rfl 6 (by decide) (hts _ m_112) (fun _ h9 => h9) rfl d_Pk_tryWithin_151 ?_
      refine lv_imul hx hb d_Pk_tryWithin_154 ?_
      refine lv_iadd hx hb d_Pk_tryWithin_155 ?_
      refine lv_iload_n hx hb d_Pk_tryWithin_156 rfl (lv_at hl 3 rfl) ?_
      refine lv_iconst (v := 2) hx hb d_Pk_tryWithin_157 (by decide) ?_
      refine lv_aload_n hx hb d_Pk_tryWithin_158 rfl (lv_at hl 0 rfl) ?_
      refine va_get (ci := 4) (v := .int (gPk_139 0 6)) (C := R_Pk) (T := F_Pk) (N := 8) hx hb hts i_Pk hown hK hP 0 rfl rfl 6 (by decide) (hts _ m_112) (fun _ h9 => h9) rfl d_Pk_tryWithin_159 ?_
      refine lv_imul hx hb d_Pk_tryWithin_162 ?_
      refine lv_iadd hx hb d_Pk_tryWithin_163 ?_
      obtain ⟨gPk_4, hc_5, h⟩ := xv1_i h
      refine cVv (ws' := (wPk xPk cI cZ gPk_4 qPk_3 ++ wGo xGo cI cZ gGo)) (As := [.int v4_139, .int (p1 + (2 * (gPk_139 0 6))), .int (p2 + (2 * (gPk_139 0 6)))]) (rest := []) C0 hP hD hS hl.1 [0, 1, 2, 3, 4] (c_Pk_keep_r l D cI cZ cJ xPk H.size gPk_139 qPk_3 v4_139 (p1 + (2 * (gPk_139 0 6))) (p2 + (2 * (gPk_139 0 6))) gPk_4 hc_5) k_Pk_keep m_475 rfl rfl rfl rfl rfl rfl ⟨by decide, by decide⟩ ⟨rfl, rfl⟩ rfl (Nat.le_of_ble_eq_true rfl) d_Pk_tryWithin_164 ⟨Nat.zero_le _, Nat.zero_le _⟩ (fun H locs hP hD hS => ?_)
      cases h
      rw [hQ]
      exact mv_ret C0 hr hlk hP hD hS d_Pk_tryWithin_167
    refine lv_if_lt (tgt := 139) hx hb d_Pk_tryWithin_119 (by decide) (fun c_6 => ?_) (fun c_6 => ?_)
    · rw [if_pos c_6] at h
      exact K139 v4_87 x_2 gPk_87 H locs ls hP hD hS (lv_sub hl [1, 2, 3, 4, 5, 0] rfl) h
    · rw [if_neg c_6] at h
      refine lv_lload hx hb d_Pk_tryWithin_122 (lv_at hl 0 rfl) ?_
      refine lv_aload_n hx hb d_Pk_tryWithin_124 rfl (lv_at hl 1 rfl) ?_
      refine va_get (ci := 4) (v := .long qPk) (C := R_Pk) (T := F_Pk) (N := 8) hx hb hts i_Pk hown hK hP 0 rfl rfl 7 (by decide) (hts _ m_113) (fun _ h9 => h9) rfl d_Pk_tryWithin_125 ?_
      refine W.lcmp hx hb d_Pk_tryWithin_128 ?_
      refine lv_if_ne (tgt := 167) hx hb d_Pk_tryWithin_129 (by decide) (fun c_7 => ?_) (fun c_7 => ?_)
      · rw [if_neg c_7] at h
        cases h
        rw [hQ]
        exact mv_ret C0 hr hlk hP hD hS d_Pk_tryWithin_167
      · rw [if_pos c_7] at h
        refine lv_aload_n hx hb d_Pk_tryWithin_132 rfl (lv_at hl 1 rfl) ?_
        obtain ⟨r_8, hc_9, h⟩ := xv1_i h
        refine cVi (ws' := (wPk xPk cI cZ gPk_87 qPk ++ wGo xGo cI cZ gGo)) (As := []) (rest := []) C0 hP hD hS hl.1 [0, 1, 2, 3, 4] (c_Pk_triedIsLower_r l D cI cZ cJ xPk H.size gPk_87 qPk r_8 hc_9) k_Pk_triedIsLower m_471 rfl rfl rfl rfl rfl (rp_same rfl) ⟨by decide, by decide⟩ ⟨rfl, rfl⟩ rfl (Nat.le_of_ble_eq_true rfl) d_Pk_tryWithin_133 ⟨Nat.zero_le _, Nat.zero_le _⟩ (fun H locs hP hD hS => ?_)
        refine lv_if_eq (tgt := 167) hx hb d_Pk_tryWithin_136 (by decide) (fun c_10 => ?_) (fun c_10 => ?_)
        · rw [if_pos c_10] at h
          cases h
          rw [hQ]
          exact mv_ret C0 hr hlk hP hD hS d_Pk_tryWithin_167
        · rw [if_neg c_10] at h
          exact K139 v4_87 x_2 gPk_87 H locs ls hP hD hS (lv_sub hl [1, 2, 3, 4, 5, 0] rfl) h
  have K9 : ∀ (n : Nat) (v4_9 : Int32) (v5_9 : Int32) (gPk_9 : St) (H : Heap) (locs : List Loc) (ls : Array Slot), va_P D vwCl (wPk xPk cI cZ gPk_9 qPk ++ wGo xGo cI cZ gGo) H → va_D A (wPk xPk cI cZ gPk_9 qPk ++ wGo xGo cI cZ gGo) → va_S A s.heap H locs → lv_has ls 7 [(0, .ref (xPk 0)), (1, .ref (xGo 0)), (2, .int p1), (3, .int p2), (4, .int v4_9), (5, .int v5_9)] → it3 (f_Pk_tryWithin_L9 qPk gGo p1 p2) n v4_9 v5_9 gPk_9 = some (gPk1, qPk1) → W p l e rm_Pk_tryWithin_r s m args below meth c H locs 0 0 Q (F0 m 9 ls []) := by
    intro n
    induction n with
    | zero => intro v4_9 v5_9 gPk_9 H locs ls hP hD hS hl h; exact (it3_0 h).elim
    | succ n ih =>
      intro v4_9 v5_9 gPk_9 H locs ls hP hD hS hl h
      rw [it3_s, f_Pk_tryWithin_L9] at h
      generalize it3 (f_Pk_tryWithin_L9 qPk gGo p1 p2) n = kc_9 at h ih
      refine lv_iload hx hb d_Pk_tryWithin_9 (lv_at hl 5 rfl) ?_
      refine lv_bipush (v := 6) hx hb d_Pk_tryWithin_11 (by decide) ?_
      refine lv_icmp_ge (tgt := 87) hx hb d_Pk_tryWithin_13 (by decide) (fun c_11 => ?_) (fun c_11 => ?_)
      · rw [if_pos c_11] at h
        exact K87 v4_9 v5_9 gPk_9 H locs ls hP hD hS (lv_sub hl [0, 1, 2, 3, 4, 5] rfl) h
      · rw [if_neg c_11] at h
        refine lv_aload_n hx hb d_Pk_tryWithin_16 rfl (lv_at hl 0 rfl) ?_
        refine va_get (ci := 4) (v := .ref (xPk 4)) (C := R_Pk) (T := F_Pk) (N := 8) hx hb hts i_Pk hown hK hP 0 rfl rfl 3 (by decide) (hts _ m_109) (fun _ h9 => h9) rfl d_Pk_tryWithin_17 ?_
        refine lv_iload hx hb d_Pk_tryWithin_20 (lv_at hl 5 rfl) ?_
        refine lv_iconst (v := (-1)) hx hb d_Pk_tryWithin_22 (by decide) ?_
        obtain ⟨hi_12, h⟩ := gb_i h
        refine va_iast hx hb hK hP hD hS 4 0 rfl rfl (inb_in hi_12) d_Pk_tryWithin_23 (fun H locs hP hD hS => ?_)
        obtain ⟨gPk_13, egPk_13, h⟩ := letb_i h
        have hP : va_P D vwCl (wPk xPk cI cZ gPk_13 qPk ++ wGo xGo cI cZ gGo) H := by rw [egPk_13, u_Pk_4, set_l (Nat.le_of_ble_eq_true rfl)]; exact hP
        have hD : va_D A (wPk xPk cI cZ gPk_13 qPk ++ wGo xGo cI cZ gGo) := by rw [egPk_13, u_Pk_4, set_l (Nat.le_of_ble_eq_true rfl)]; exact hD
        refine lv_aload_n hx hb d_Pk_tryWithin_24 rfl (lv_at hl 0 rfl) ?_
        refine va_get (ci := 4) (v := .int (gPk_13 0 5)) (C := R_Pk) (T := F_Pk) (N := 8) hx hb hts i_Pk hown hK hP 0 rfl rfl 5 (by decide) (hts _ m_111) (fun _ h9 => h9) rfl d_Pk_tryWithin_25 ?_
        refine lv_iload hx hb d_Pk_tryWithin_28 (lv_at hl 5 rfl) ?_
        obtain ⟨r_14, hc_15, h⟩ := xv1_i h
        refine cSi (ws' := (wPk xPk cI cZ gPk_13 qPk ++ wGo xGo cI cZ gGo)) (As := [.int (gPk_13 0 5), .int v5_9]) (rest := []) C0 hP hD hS hl.1 [] (c_Pk_isIn_r l D cI cZ cJ  H.size (gPk_13 0 5) v5_9 r_14 hc_15) k_Pk_isIn m_440 rfl rfl rfl (rp_same rfl) ⟨by decide, by decide⟩ ⟨rfl, rfl⟩ rfl (Nat.le_of_ble_eq_true rfl) d_Pk_tryWithin_30 ⟨Nat.zero_le _, Nat.zero_le _⟩ (fun H locs hP hD hS => ?_)
        have K81 : ∀ (v4_81 : Int32) (v5_81 : Int32) (gPk_81 : St) (H : Heap) (locs : List Loc) (ls : Array Slot), va_P D vwCl (wPk xPk cI cZ gPk_81 qPk ++ wGo xGo cI cZ gGo) H → va_D A (wPk xPk cI cZ gPk_81 qPk ++ wGo xGo cI cZ gGo) → va_S A s.heap H locs → lv_has ls 7 [(0, .ref (xPk 0)), (1, .ref (xGo 0)), (2, .int p1), (3, .int p2), (4, .int v4_81), (5, .int v5_81)] → f_Pk_tryWithin_J81 kc_9 v4_81 v5_81 gPk_81 = some (gPk1, qPk1) → W p l e rm_Pk_tryWithin_r s m args below meth c H locs 0 0 Q (F0 m 81 ls []) := by
          intro v4_81 v5_81 gPk_81 H locs ls hP hD hS hl h
          unfold f_Pk_tryWithin_J81 at h
          obtain ⟨x_16, ex_16, h⟩ := letb_i h
          refine lv_iinc (v := x_16) (lv' := [(5, .int x_16), (0, .ref (xPk 0)), (1, .ref (xGo 0)), (2, .int p1), (3, .int p2), (4, .int v4_81)]) hx hb d_Pk_tryWithin_81 hl (k := 5) rfl (by rw [ex_16]; rfl) (by decide) rfl (fun ls hl => ?_)
          refine lv_goto (tgt := 9) hx hb d_Pk_tryWithin_84 (by decide) ?_
          exact ih v4_81 x_16 gPk_81 H locs ls hP hD hS (lv_sub hl [1, 2, 3, 4, 5, 0] rfl) h
        refine lv_if_eq (tgt := 81) hx hb d_Pk_tryWithin_33 (by decide) (fun c_17 => ?_) (fun c_17 => ?_)
        · rw [if_pos c_17] at h
          exact K81 v4_9 v5_9 gPk_13 H locs ls hP hD hS (lv_sub hl [0, 1, 2, 3, 4, 5] rfl) h
        · rw [if_neg c_17] at h
          refine lv_aload_n hx hb d_Pk_tryWithin_36 rfl (lv_at hl 1 rfl) ?_
          refine lv_iload hx hb d_Pk_tryWithin_37 (lv_at hl 5 rfl) ?_
          refine lv_iload_n hx hb d_Pk_tryWithin_39 rfl (lv_at hl 2 rfl) ?_
          refine lv_iload_n hx hb d_Pk_tryWithin_40 rfl (lv_at hl 3 rfl) ?_
          obtain ⟨r_18, hc_19, h⟩ := xv1_i h
          refine cVi (ws' := (wPk xPk cI cZ gPk_13 qPk ++ wGo xGo cI cZ gGo)) (As := [.int v5_9, .int p1, .int p2]) (rest := []) C0 hP hD hS hl.1 [5, 6, 7, 8, 9, 10] (c_Go_shortestWay_r l D cI cZ cJ xGo H.size gGo v5_9 p1 p2 r_18 hc_19) k_Go_shortestWay m_456 rfl rfl rfl rfl rfl (rp_same rfl) ⟨by decide, by decide⟩ ⟨rfl, rfl⟩ rfl (Nat.le_of_ble_eq_true rfl) d_Pk_tryWithin_41 ⟨Nat.zero_le _, Nat.zero_le _⟩ (fun H locs hP hD hS => ?_)
          refine lv_istore (lv' := [(6, .int r_18), (0, .ref (xPk 0)), (1, .ref (xGo 0)), (2, .int p1), (3, .int p2), (4, .int v4_9), (5, .int v5_9)]) hx hb d_Pk_tryWithin_44 hl (by decide) rfl (fun ls hl => ?_)
          refine lv_iload hx hb d_Pk_tryWithin_46 (lv_at hl 0 rfl) ?_
          refine lv_iconst (v := (-1)) hx hb d_Pk_tryWithin_48 (by decide) ?_
          refine lv_icmp_ne (tgt := 53) hx hb d_Pk_tryWithin_49 (by decide) (fun c_20 => ?_) (fun c_20 => ?_)
          · rw [if_neg c_20] at h
            refine lv_aload_n hx hb d_Pk_tryWithin_53 rfl (lv_at hl 1 rfl) ?_
            refine va_get (ci := 4) (v := .ref (xPk 4)) (C := R_Pk) (T := F_Pk) (N := 8) hx hb hts i_Pk hown hK hP 0 rfl rfl 3 (by decide) (hts _ m_109) (fun _ h9 => h9) rfl d_Pk_tryWithin_54 ?_
            refine lv_iload hx hb d_Pk_tryWithin_57 (lv_at hl 6 rfl) ?_
            refine lv_iload hx hb d_Pk_tryWithin_59 (lv_at hl 0 rfl) ?_
            obtain ⟨hi_21, h⟩ := gb_i h
            refine va_iast hx hb hK hP hD hS 4 0 rfl rfl (inb_in hi_21) d_Pk_tryWithin_61 (fun H locs hP hD hS => ?_)
            obtain ⟨gPk_22, egPk_22, h⟩ := letb_i h
            have hP : va_P D vwCl (wPk xPk cI cZ gPk_22 qPk ++ wGo xGo cI cZ gGo) H := by rw [egPk_22, u_Pk_4, set_l (Nat.le_of_ble_eq_true rfl)]; exact hP
            have hD : va_D A (wPk xPk cI cZ gPk_22 qPk ++ wGo xGo cI cZ gGo) := by rw [egPk_22, u_Pk_4, set_l (Nat.le_of_ble_eq_true rfl)]; exact hD
            refine lv_iload hx hb d_Pk_tryWithin_62 (lv_at hl 5 rfl) ?_
            refine lv_aload_n hx hb d_Pk_tryWithin_64 rfl (lv_at hl 2 rfl) ?_
            refine lv_iload hx hb d_Pk_tryWithin_65 (lv_at hl 6 rfl) ?_
            refine lv_iload hx hb d_Pk_tryWithin_67 (lv_at hl 0 rfl) ?_
            refine lv_iconst (v := 0) hx hb d_Pk_tryWithin_69 (by decide) ?_
            obtain ⟨r_23, hc_24, h⟩ := xv1_i h
            refine cVi (ws' := (wPk xPk cI cZ gPk_22 qPk ++ wGo xGo cI cZ gGo)) (As := [.int v5_9, .int r_18, .int 0]) (rest := [.int v4_9]) C0 hP hD hS hl.1 [5, 6, 7, 8, 9, 10] (c_Go_sizeOf_r l D cI cZ cJ xGo H.size gGo v5_9 r_18 0 r_23 hc_24) k_Go_sizeOf m_470 rfl rfl rfl rfl rfl (rp_same rfl) ⟨by decide, by decide⟩ ⟨rfl, rfl⟩ rfl (Nat.le_of_ble_eq_true rfl) d_Pk_tryWithin_70 ⟨Nat.zero_le _, Nat.zero_le _⟩ (fun H locs hP hD hS => ?_)
            refine lv_aload_n hx hb d_Pk_tryWithin_73 rfl (lv_at hl 1 rfl) ?_
            refine va_get (ci := 4) (v := .int (gPk_22 0 6)) (C := R_Pk) (T := F_Pk) (N := 8) hx hb hts i_Pk hown hK hP 0 rfl rfl 6 (by decide) (hts _ m_112) (fun _ h9 => h9) rfl d_Pk_tryWithin_74 ?_
            refine lv_iadd hx hb d_Pk_tryWithin_77 ?_
            refine lv_iadd hx hb d_Pk_tryWithin_78 ?_
            obtain ⟨x_25, ex_25, h⟩ := letb_i h
            refine lv_topn ex_25 ?_
            refine lv_istore (lv' := [(4, .int x_25), (6, .int r_18), (0, .ref (xPk 0)), (1, .ref (xGo 0)), (2, .int p1), (3, .int p2), (5, .int v5_9)]) hx hb d_Pk_tryWithin_79 hl (by decide) rfl (fun ls hl => ?_)
            exact K81 x_25 v5_9 gPk_22 H locs ls hP hD hS (lv_sub hl [2, 3, 4, 5, 0, 6] rfl) h
          · rw [if_pos c_20] at h
            cases h
            rw [hQ]
            exact mv_ret C0 hr hlk hP hD hS d_Pk_tryWithin_52
  exact K9 FU x_1 0 gPk H locs ls hP hD hS (lv_sub hl [2, 3, 4, 5, 1, 0] rfl) h
abbrev rm_Pk_findLeast_r : Room := { frames := 3, cells := 0, slots := 0, locals := 109 }
set_option maxRecDepth 100000 in
set_option maxHeartbeats 4000000 in
theorem c_Pk_findLeast_r (l : Launch) (D : va_G) (cI cZ cJ : ClassId) (xPk : Nat → Nat) (xGo : Nat → Nat) (sz : Nat) (gPk : St) (qPk : Int64) (gGo : St)  (gPk1 : St) (qPk1 : Int64) (h : f_Pk_findLeast gPk qPk gGo = some (gPk1, qPk1)) : MV l y_Pk_findLeast b_Pk_findLeast 5 (Option.none : Option Jvm.ClassFile.FieldType) rm_Pk_findLeast_r D (TYS cI cZ cJ) [.ref (xPk 0), .ref (xGo 0)] (wPk xPk cI cZ gPk qPk ++ wGo xGo cI cZ gGo) sz (wPk xPk cI cZ gPk1 qPk1 ++ wGo xGo cI cZ gGo) := by
  refine mv_start (own := R_Pk) (by decide +kernel) rfl (Nat.le_of_ble_eq_true rfl) (fun p e s m args below meth c A ls C0 hr hlk hP hD hS hl => ?_)
  obtain ⟨Q, hQ⟩ : ∃ Q, Q = QV below D (TYS cI cZ cJ) A (wPk xPk cI cZ gPk1 qPk1 ++ wGo xGo cI cZ gGo) args s := ⟨_, rfl⟩
  rw [← hQ]
  obtain ⟨hx, hb, -, hown, hts, hK, hE, -⟩ := id C0
  have hl : lv_has ls 5 [(0, .ref (xPk 0)), (1, .ref (xGo 0))] := hl
  obtain ⟨H, hH⟩ : ∃ H, H = s.heap := ⟨_, rfl⟩
  have hP : va_P D vwCl (wPk xPk cI cZ gPk qPk ++ wGo xGo cI cZ gGo) H := by rw [hH]; exact hP
  have hS : va_S A s.heap H [] := by rw [hH]; exact hS
  rw [show W p l e rm_Pk_findLeast_r s m args below meth c s.heap = W p l e rm_Pk_findLeast_r s m args below meth c H by rw [hH]]
  generalize ([] : List Loc) = locs at hS ⊢
  unfold f_Pk_findLeast at h
  refine lv_aload_n hx hb d_Pk_findLeast_0 rfl (lv_at hl 0 rfl) ?_
  refine lv_ldc2 hx hb hown (hts _ m_451) d_Pk_findLeast_1 ?_
  refine va_put (ci := 4) (v := .long 9223372036854775807) (ty := .long) (C := R_Pk) (T := F_Pk) (N := 8) hx hb hts i_Pk t_Pk o_Pk n_Pk hown hK hP hD hS 0 rfl rfl 7 (by decide) (hts _ m_113) (fun _ h9 => h9) rfl (by decide +kernel) rfl rfl (Nat.le_of_ble_eq_true rfl) d_Pk_findLeast_4 (fun H locs hP hD hS => ?_)
  obtain ⟨qPk_1, eqPk_1, h⟩ := letb_i h
  have hP : va_P D vwCl (wPk xPk cI cZ gPk qPk_1 ++ wGo xGo cI cZ gGo) H := by rw [u_Pk_q (q := qPk), set_l (Nat.le_of_ble_eq_true rfl), eqPk_1]; exact hP
  have hD : va_D A (wPk xPk cI cZ gPk qPk_1 ++ wGo xGo cI cZ gGo) := by rw [u_Pk_q (q := qPk), set_l (Nat.le_of_ble_eq_true rfl), eqPk_1]; exact hD
  refine lv_aload_n hx hb d_Pk_findLeast_7 rfl (lv_at hl 1 rfl) ?_
  refine va_getN (ci := 2) (v := .int (gGo 0 5)) (C := R_Go) (T := F_Go) (N := 6) hx hb hts i_Go hown hK hP 5 rfl rfl 5 (by decide) (va_Nw.use rfl (hE.1 _ (List.mem_of_getElem? (i := 1) rfl))) (fun _ h9 => h9) rfl d_Pk_findLeast_8 ?_
  refine lv_iconst (v := 3) hx hb d_Pk_findLeast_11 (by decide) ?_
  refine lv_imul hx hb d_Pk_findLeast_12 ?_
  obtain ⟨x_2, ex_2, h⟩ := letb_i h
  refine lv_topn ex_2 ?_
  refine lv_istore_n (lv' := [(2, .int x_2), (0, .ref (xPk 0)), (1, .ref (xGo 0))]) hx hb d_Pk_findLeast_13 rfl hl (by decide) rfl (fun ls hl => ?_)
  refine lv_iconst (v := 0) hx hb d_Pk_findLeast_14 (by decide) ?_
  refine lv_istore_n (lv' := [(3, .int 0), (2, .int x_2), (0, .ref (xPk 0)), (1, .ref (xGo 0))]) hx hb d_Pk_findLeast_15 rfl hl (by decide) rfl (fun ls hl => ?_)
  have K87 : ∀ (v2_87 : Int32) (v3_87 : Int32) (gPk_87 : St) (qPk_87 : Int64) (H : Heap) (locs : List Loc) (ls : Array Slot), va_P D vwCl (wPk xPk cI cZ gPk_87 qPk_87 ++ wGo xGo cI cZ gGo) H → va_D A (wPk xPk cI cZ gPk_87 qPk_87 ++ wGo xGo cI cZ gGo) → va_S A s.heap H locs → lv_has ls 5 [(0, .ref (xPk 0)), (1, .ref (xGo 0)), (2, .int v2_87), (3, .int v3_87)] → f_Pk_findLeast_X87 v2_87 v3_87 gPk_87 qPk_87 = some (gPk1, qPk1) → W p l e rm_Pk_findLeast_r s m args below meth c H locs 0 0 Q (F0 m 87 ls []) := by
    intro v2_87 v3_87 gPk_87 qPk_87 H locs ls hP hD hS hl h
    unfold f_Pk_findLeast_X87 at h
    cases h
    rw [hQ]
    exact mv_ret C0 hr hlk hP hD hS d_Pk_findLeast_87
  have K16 : ∀ (n : Nat) (v2_16 : Int32) (v3_16 : Int32) (gPk_16 : St) (qPk_16 : Int64) (H : Heap) (locs : List Loc) (ls : Array Slot), va_P D vwCl (wPk xPk cI cZ gPk_16 qPk_16 ++ wGo xGo cI cZ gGo) H → va_D A (wPk xPk cI cZ gPk_16 qPk_16 ++ wGo xGo cI cZ gGo) → va_S A s.heap H locs → lv_has ls 5 [(0, .ref (xPk 0)), (1, .ref (xGo 0)), (2, .int v2_16), (3, .int v3_16)] → it4 (f_Pk_findLeast_L16 gGo) n v2_16 v3_16 gPk_16 qPk_16 = some (gPk1, qPk1) → W p l e rm_Pk_findLeast_r s m args below meth c H locs 0 0 Q (F0 m 16 ls []) := by
    intro n
    induction n with
    | zero => intro v2_16 v3_16 gPk_16 qPk_16 H locs ls hP hD hS hl h; exact (it4_0 h).elim
    | succ n ih =>
      intro v2_16 v3_16 gPk_16 qPk_16 H locs ls hP hD hS hl h
      rw [it4_s, f_Pk_findLeast_L16] at h
      generalize it4 (f_Pk_findLeast_L16 gGo) n = kc_16 at h ih
      refine lv_iload_n hx hb d_Pk_findLeast_16 rfl (lv_at hl 3 rfl) ?_
      refine lv_iload_n hx hb d_Pk_findLeast_17 rfl (lv_at hl 2 rfl) ?_
      refine lv_icmp_ge (tgt := 87) hx hb d_Pk_findLeast_18 (by decide) (fun c_3 => ?_) (fun c_3 => ?_)
      · rw [if_pos c_3] at h
        exact K87 v2_16 v3_16 gPk_16 qPk_16 H locs ls hP hD hS (lv_sub hl [0, 1, 2, 3] rfl) h
      · rw [if_neg c_3] at h
        refine lv_iconst (v := 0) hx hb d_Pk_findLeast_21 (by decide) ?_
        refine lv_istore (lv' := [(4, .int 0), (0, .ref (xPk 0)), (1, .ref (xGo 0)), (2, .int v2_16), (3, .int v3_16)]) hx hb d_Pk_findLeast_22 hl (by decide) rfl (fun ls hl => ?_)
        have K81 : ∀ (v2_81 : Int32) (v3_81 : Int32) (v4_81 : Int32) (gPk_81 : St) (qPk_81 : Int64) (H : Heap) (locs : List Loc) (ls : Array Slot), va_P D vwCl (wPk xPk cI cZ gPk_81 qPk_81 ++ wGo xGo cI cZ gGo) H → va_D A (wPk xPk cI cZ gPk_81 qPk_81 ++ wGo xGo cI cZ gGo) → va_S A s.heap H locs → lv_has ls 5 [(0, .ref (xPk 0)), (1, .ref (xGo 0)), (2, .int v2_81), (3, .int v3_81), (4, .int v4_81)] → f_Pk_findLeast_X81 kc_16 v2_81 v3_81 v4_81 gPk_81 qPk_81 = some (gPk1, qPk1) → W p l e rm_Pk_findLeast_r s m args below meth c H locs 0 0 Q (F0 m 81 ls []) := by
          intro v2_81 v3_81 v4_81 gPk_81 qPk_81 H locs ls hP hD hS hl h
          unfold f_Pk_findLeast_X81 at h
          obtain ⟨x_4, ex_4, h⟩ := letb_i h
          refine lv_iinc (v := x_4) (lv' := [(3, .int x_4), (0, .ref (xPk 0)), (1, .ref (xGo 0)), (2, .int v2_81), (4, .int v4_81)]) hx hb d_Pk_findLeast_81 hl (k := 3) rfl (by rw [ex_4]; rfl) (by decide) rfl (fun ls hl => ?_)
          refine lv_goto (tgt := 16) hx hb d_Pk_findLeast_84 (by decide) ?_
          exact ih v2_81 x_4 gPk_81 qPk_81 H locs ls hP hD hS (lv_sub hl [1, 2, 3, 0] rfl) h
        have K24 : ∀ (n : Nat) (v2_24 : Int32) (v3_24 : Int32) (v4_24 : Int32) (gPk_24 : St) (qPk_24 : Int64) (H : Heap) (locs : List Loc) (ls : Array Slot), va_P D vwCl (wPk xPk cI cZ gPk_24 qPk_24 ++ wGo xGo cI cZ gGo) H → va_D A (wPk xPk cI cZ gPk_24 qPk_24 ++ wGo xGo cI cZ gGo) → va_S A s.heap H locs → lv_has ls 5 [(0, .ref (xPk 0)), (1, .ref (xGo 0)), (2, .int v2_24), (3, .int v3_24), (4, .int v4_24)] → it5 (f_Pk_findLeast_L24 gGo kc_16) n v2_24 v3_24 v4_24 gPk_24 qPk_24 = some (gPk1, qPk1) → W p l e rm_Pk_findLeast_r s m args below meth c H locs 0 0 Q (F0 m 24 ls []) := by
          intro n
          induction n with
          | zero => intro v2_24 v3_24 v4_24 gPk_24 qPk_24 H locs ls hP hD hS hl h; exact (it5_0 h).elim
          | succ n ih =>
            intro v2_24 v3_24 v4_24 gPk_24 qPk_24 H locs ls hP hD hS hl h
            rw [it5_s, f_Pk_findLeast_L24] at h
            generalize it5 (f_Pk_findLeast_L24 gGo kc_16) n = kc_24 at h ih
            refine lv_iload hx hb d_Pk_findLeast_24 (lv_at hl 4 rfl) ?_
            refine lv_iload_n hx hb d_Pk_findLeast_26 rfl (lv_at hl 2 rfl) ?_
            refine lv_icmp_ge (tgt := 81) hx hb d_Pk_findLeast_27 (by decide) (fun c_5 => ?_) (fun c_5 => ?_)
            · rw [if_pos c_5] at h
              exact K81 v2_24 v3_24 v4_24 gPk_24 qPk_24 H locs ls hP hD hS (lv_sub hl [0, 1, 2, 3, 4] rfl) h
            · rw [if_neg c_5] at h
              refine lv_aload_n hx hb d_Pk_findLeast_30 rfl (lv_at hl 0 rfl) ?_
              refine va_get (ci := 4) (v := .int (gPk_24 0 5)) (C := R_Pk) (T := F_Pk) (N := 8) hx hb hts i_Pk hown hK hP 0 rfl rfl 5 (by decide) (hts _ m_111) (fun _ h9 => h9) rfl d_Pk_findLeast_31 ?_
              refine lv_iload_n hx hb d_Pk_findLeast_34 rfl (lv_at hl 3 rfl) ?_
              refine lv_iconst (v := 3) hx hb d_Pk_findLeast_35 (by decide) ?_
              refine lv_idiv hx hb d_Pk_findLeast_36 (by decide) ?_
              obtain ⟨r_6, hc_7, h⟩ := xv1_i h
              refine cSi (ws' := (wPk xPk cI cZ gPk_24 qPk_24 ++ wGo xGo cI cZ gGo)) (As := [.int (gPk_24 0 5), .int (v3_24 / 3)]) (rest := []) C0 hP hD hS hl.1 [] (c_Pk_isIn_r l D cI cZ cJ  H.size (gPk_24 0 5) (v3_24 / 3) r_6 hc_7) k_Pk_isIn m_440 rfl rfl rfl (rp_same rfl) ⟨by decide, by decide⟩ ⟨rfl, rfl⟩ rfl (Nat.le_of_ble_eq_true rfl) d_Pk_findLeast_37 ⟨Nat.zero_le _, Nat.zero_le _⟩ (fun H locs hP hD hS => ?_)
              have K75 : ∀ (v2_75 : Int32) (v3_75 : Int32) (v4_75 : Int32) (gPk_75 : St) (qPk_75 : Int64) (H : Heap) (locs : List Loc) (ls : Array Slot), va_P D vwCl (wPk xPk cI cZ gPk_75 qPk_75 ++ wGo xGo cI cZ gGo) H → va_D A (wPk xPk cI cZ gPk_75 qPk_75 ++ wGo xGo cI cZ gGo) → va_S A s.heap H locs → lv_has ls 5 [(0, .ref (xPk 0)), (1, .ref (xGo 0)), (2, .int v2_75), (3, .int v3_75), (4, .int v4_75)] → f_Pk_findLeast_J75 kc_24 v2_75 v3_75 v4_75 gPk_75 qPk_75 = some (gPk1, qPk1) → W p l e rm_Pk_findLeast_r s m args below meth c H locs 0 0 Q (F0 m 75 ls []) := by
                intro v2_75 v3_75 v4_75 gPk_75 qPk_75 H locs ls hP hD hS hl h
                unfold f_Pk_findLeast_J75 at h
                obtain ⟨x_8, ex_8, h⟩ := letb_i h
                refine lv_iinc (v := x_8) (lv' := [(4, .int x_8), (0, .ref (xPk 0)), (1, .ref (xGo 0)), (2, .int v2_75), (3, .int v3_75)]) hx hb d_Pk_findLeast_75 hl (k := 4) rfl (by rw [ex_8]; rfl) (by decide) rfl (fun ls hl => ?_)
                refine lv_goto (tgt := 24) hx hb d_Pk_findLeast_78 (by decide) ?_
                exact ih v2_75 v3_75 x_8 gPk_75 qPk_75 H locs ls hP hD hS (lv_sub hl [1, 2, 3, 4, 0] rfl) h
              refine lv_if_eq (tgt := 75) hx hb d_Pk_findLeast_40 (by decide) (fun c_9 => ?_) (fun c_9 => ?_)
              · rw [if_pos c_9] at h
                exact K75 v2_24 v3_24 v4_24 gPk_24 qPk_24 H locs ls hP hD hS (lv_sub hl [0, 1, 2, 3, 4] rfl) h
              · rw [if_neg c_9] at h
                refine lv_aload_n hx hb d_Pk_findLeast_43 rfl (lv_at hl 0 rfl) ?_
                refine va_get (ci := 4) (v := .int (gPk_24 0 5)) (C := R_Pk) (T := F_Pk) (N := 8) hx hb hts i_Pk hown hK hP 0 rfl rfl 5 (by decide) (hts _ m_111) (fun _ h9 => h9) rfl d_Pk_findLeast_44 ?_
                refine lv_iload hx hb d_Pk_findLeast_47 (lv_at hl 4 rfl) ?_
                refine lv_iconst (v := 3) hx hb d_Pk_findLeast_49 (by decide) ?_
                refine lv_idiv hx hb d_Pk_findLeast_50 (by decide) ?_
                obtain ⟨r_10, hc_11, h⟩ := xv1_i h
                refine cSi (ws' := (wPk xPk cI cZ gPk_24 qPk_24 ++ wGo xGo cI cZ gGo)) (As := [.int (gPk_24 0 5), .int (v4_24 / 3)]) (rest := []) C0 hP hD hS hl.1 [] (c_Pk_isIn_r l D cI cZ cJ  H.size (gPk_24 0 5) (v4_24 / 3) r_10 hc_11) k_Pk_isIn m_440 rfl rfl rfl (rp_same rfl) ⟨by decide, by decide⟩ ⟨rfl, rfl⟩ rfl (Nat.le_of_ble_eq_true rfl) d_Pk_findLeast_51 ⟨Nat.zero_le _, Nat.zero_le _⟩ (fun H locs hP hD hS => ?_)
                refine lv_if_eq (tgt := 75) hx hb d_Pk_findLeast_54 (by decide) (fun c_12 => ?_) (fun c_12 => ?_)
                · rw [if_pos c_12] at h
                  exact K75 v2_24 v3_24 v4_24 gPk_24 qPk_24 H locs ls hP hD hS (lv_sub hl [0, 1, 2, 3, 4] rfl) h
                · rw [if_neg c_12] at h
                  refine lv_aload_n hx hb d_Pk_findLeast_57 rfl (lv_at hl 0 rfl) ?_
                  refine lv_aload_n hx hb d_Pk_findLeast_58 rfl (lv_at hl 1 rfl) ?_
                  refine lv_aload_n hx hb d_Pk_findLeast_59 rfl (lv_at hl 1 rfl) ?_
                  refine va_getN (ci := 2) (v := .ref (xGo 1)) (C := R_Go) (T := F_Go) (N := 6) hx hb hts i_Go hown hK hP 5 rfl rfl 0 (by decide) (va_Nw.use rfl (hE.1 _ (List.mem_of_getElem? (i := 0) rfl))) (fun _ h9 => h9) rfl d_Pk_findLeast_60 ?_
                  refine lv_iload_n hx hb d_Pk_findLeast_63 rfl (lv_at hl 3 rfl) ?_
                  obtain ⟨hi_13, h⟩ := gb_i h
                  refine va_iald hx hb hK hP 6 0 rfl rfl (inb_in hi_13) d_Pk_findLeast_64 ?_
                  obtain ⟨x_14, ex_14, h⟩ := letb_i h
                  refine lv_topn ex_14 ?_
                  refine lv_aload_n hx hb d_Pk_findLeast_65 rfl (lv_at hl 1 rfl) ?_
                  refine va_getN (ci := 2) (v := .ref (xGo 1)) (C := R_Go) (T := F_Go) (N := 6) hx hb hts i_Go hown hK hP 5 rfl rfl 0 (by decide) (va_Nw.use rfl (hE.1 _ (List.mem_of_getElem? (i := 0) rfl))) (fun _ h9 => h9) rfl d_Pk_findLeast_66 ?_
                  refine lv_iload hx hb d_Pk_findLeast_69 (lv_at hl 4 rfl) ?_
                  obtain ⟨hi_15, h⟩ := gb_i h
                  refine va_iald hx hb hK hP 6 0 rfl rfl (inb_in hi_15) d_Pk_findLeast_71 ?_
                  obtain ⟨x_16, ex_16, h⟩ := letb_i h
                  refine lv_topn ex_16 ?_
                  obtain ⟨gPk_17, qPk_18, hc_19, h⟩ := xv2_i h
                  refine cVv (ws' := (wPk xPk cI cZ gPk_17 qPk_18 ++ wGo xGo cI cZ gGo)) (As := [.ref (xGo 0), .int x_14, .int x_16]) (rest := []) C0 hP hD hS hl.1 [0, 1, 2, 3, 4, 5, 6, 7, 8, 9, 10] (c_Pk_tryWithin_r l D cI cZ cJ xPk xGo H.size gPk_24 qPk_24 gGo x_14 x_16 gPk_17 qPk_18 hc_19) k_Pk_tryWithin m_452 rfl rfl rfl rfl rfl (rp_all rfl rfl) ⟨by decide, by decide⟩ ⟨rfl, rfl⟩ rfl (Nat.le_of_ble_eq_true rfl) d_Pk_findLeast_72 ⟨Nat.zero_le _, Nat.zero_le _⟩ (fun H locs hP hD hS => ?_)
                  exact K75 v2_24 v3_24 v4_24 gPk_17 qPk_18 H locs ls hP hD hS (lv_sub hl [0, 1, 2, 3, 4] rfl) h
        exact K24 FU v2_16 v3_16 0 gPk_16 qPk_16 H locs ls hP hD hS (lv_sub hl [1, 2, 3, 4, 0] rfl) h
  exact K16 FU x_2 0 gPk qPk_1 H locs ls hP hD hS (lv_sub hl [2, 3, 1, 0] rfl) h
abbrev rm_Pk_placeInRow_r : Room := { frames := 1, cells := 0, slots := 0, locals := 23 }
set_option maxRecDepth 100000 in
set_option maxHeartbeats 4000000 in
theorem c_Pk_placeInRow_r (l : Launch) (D : va_G) (cI cZ cJ : ClassId) (xPk : Nat → Nat) (xGo : Nat → Nat) (sz : Nat) (gPk : St) (qPk : Int64) (gGo : St)  (gPk1 : St) (h : f_Pk_placeInRow gPk qPk gGo = some gPk1) : MV l y_Pk_placeInRow b_Pk_placeInRow 4 (Option.none : Option Jvm.ClassFile.FieldType) rm_Pk_placeInRow_r D (TYS cI cZ cJ) [.ref (xPk 0), .ref (xGo 0)] (wPk xPk cI cZ gPk qPk ++ wGo xGo cI cZ gGo) sz (wPk xPk cI cZ gPk1 qPk ++ wGo xGo cI cZ gGo) := by
  refine mv_start (own := R_Pk) (by decide +kernel) rfl (Nat.le_of_ble_eq_true rfl) (fun p e s m args below meth c A ls C0 hr hlk hP hD hS hl => ?_)
  obtain ⟨Q, hQ⟩ : ∃ Q, Q = QV below D (TYS cI cZ cJ) A (wPk xPk cI cZ gPk1 qPk ++ wGo xGo cI cZ gGo) args s := ⟨_, rfl⟩
  rw [← hQ]
  obtain ⟨hx, hb, -, hown, hts, hK, hE, -⟩ := id C0
  have hl : lv_has ls 4 [(0, .ref (xPk 0)), (1, .ref (xGo 0))] := hl
  obtain ⟨H, hH⟩ : ∃ H, H = s.heap := ⟨_, rfl⟩
  have hP : va_P D vwCl (wPk xPk cI cZ gPk qPk ++ wGo xGo cI cZ gGo) H := by rw [hH]; exact hP
  have hS : va_S A s.heap H [] := by rw [hH]; exact hS
  rw [show W p l e rm_Pk_placeInRow_r s m args below meth c s.heap = W p l e rm_Pk_placeInRow_r s m args below meth c H by rw [hH]]
  generalize ([] : List Loc) = locs at hS ⊢
  unfold f_Pk_placeInRow at h
  refine lv_aload_n hx hb d_Pk_placeInRow_0 rfl (lv_at hl 0 rfl) ?_
  refine va_get (ci := 4) (v := .int (gPk 0 6)) (C := R_Pk) (T := F_Pk) (N := 8) hx hb hts i_Pk hown hK hP 0 rfl rfl 6 (by decide) (hts _ m_112) (fun _ h9 => h9) rfl d_Pk_placeInRow_1 ?_
  obtain ⟨x_1, ex_1, h⟩ := letb_i h
  refine lv_topn ex_1 ?_
  refine lv_istore_n (lv' := [(2, .int x_1), (0, .ref (xPk 0)), (1, .ref (xGo 0))]) hx hb d_Pk_placeInRow_4 rfl hl (by decide) rfl (fun ls hl => ?_)
  refine lv_iconst (v := 0) hx hb d_Pk_placeInRow_5 (by decide) ?_
  refine lv_istore_n (lv' := [(3, .int 0), (2, .int x_1), (0, .ref (xPk 0)), (1, .ref (xGo 0))]) hx hb d_Pk_placeInRow_6 rfl hl (by decide) rfl (fun ls hl => ?_)
  have K66 : ∀ (v2_66 : Int32) (v3_66 : Int32) (gPk_66 : St) (H : Heap) (locs : List Loc) (ls : Array Slot), va_P D vwCl (wPk xPk cI cZ gPk_66 qPk ++ wGo xGo cI cZ gGo) H → va_D A (wPk xPk cI cZ gPk_66 qPk ++ wGo xGo cI cZ gGo) → va_S A s.heap H locs → lv_has ls 4 [(0, .ref (xPk 0)), (1, .ref (xGo 0)), (2, .int v2_66), (3, .int v3_66)] → f_Pk_placeInRow_X66 v2_66 v3_66 gPk_66 = some gPk1 → W p l e rm_Pk_placeInRow_r s m args below meth c H locs 0 0 Q (F0 m 66 ls []) := by
    intro v2_66 v3_66 gPk_66 H locs ls hP hD hS hl h
    unfold f_Pk_placeInRow_X66 at h
    cases h
    rw [hQ]
    exact mv_ret C0 hr hlk hP hD hS d_Pk_placeInRow_66
  have K7 : ∀ (n : Nat) (v2_7 : Int32) (v3_7 : Int32) (gPk_7 : St) (H : Heap) (locs : List Loc) (ls : Array Slot), va_P D vwCl (wPk xPk cI cZ gPk_7 qPk ++ wGo xGo cI cZ gGo) H → va_D A (wPk xPk cI cZ gPk_7 qPk ++ wGo xGo cI cZ gGo) → va_S A s.heap H locs → lv_has ls 4 [(0, .ref (xPk 0)), (1, .ref (xGo 0)), (2, .int v2_7), (3, .int v3_7)] → it3 (f_Pk_placeInRow_L7 gGo) n v2_7 v3_7 gPk_7 = some gPk1 → W p l e rm_Pk_placeInRow_r s m args below meth c H locs 0 0 Q (F0 m 7 ls []) := by
    intro n
    induction n with
    | zero => intro v2_7 v3_7 gPk_7 H locs ls hP hD hS hl h; exact (it3_0 h).elim
    | succ n ih =>
      intro v2_7 v3_7 gPk_7 H locs ls hP hD hS hl h
      rw [it3_s, f_Pk_placeInRow_L7] at h
      generalize it3 (f_Pk_placeInRow_L7 gGo) n = kc_7 at h ih
      refine lv_iload_n hx hb d_Pk_placeInRow_7 rfl (lv_at hl 3 rfl) ?_
      refine lv_bipush (v := 6) hx hb d_Pk_placeInRow_8 (by decide) ?_
      refine lv_icmp_ge (tgt := 66) hx hb d_Pk_placeInRow_10 (by decide) (fun c_2 => ?_) (fun c_2 => ?_)
      · rw [if_pos c_2] at h
        exact K66 v2_7 v3_7 gPk_7 H locs ls hP hD hS (lv_sub hl [0, 1, 2, 3] rfl) h
      · rw [if_neg c_2] at h
        refine lv_aload_n hx hb d_Pk_placeInRow_13 rfl (lv_at hl 0 rfl) ?_
        refine va_get (ci := 4) (v := .ref (xPk 2)) (C := R_Pk) (T := F_Pk) (N := 8) hx hb hts i_Pk hown hK hP 0 rfl rfl 1 (by decide) (hts _ m_107) (fun _ h9 => h9) rfl d_Pk_placeInRow_14 ?_
        refine lv_iload_n hx hb d_Pk_placeInRow_17 rfl (lv_at hl 3 rfl) ?_
        obtain ⟨hi_3, h⟩ := gb_i h
        refine va_iald hx hb hK hP 2 0 rfl rfl (inb_in hi_3) d_Pk_placeInRow_18 ?_
        obtain ⟨x_4, ex_4, h⟩ := letb_i h
        refine lv_topn ex_4 ?_
        refine lv_iconst (v := (-1)) hx hb d_Pk_placeInRow_19 (by decide) ?_
        have K60 : ∀ (v2_60 : Int32) (v3_60 : Int32) (gPk_60 : St) (H : Heap) (locs : List Loc) (ls : Array Slot), va_P D vwCl (wPk xPk cI cZ gPk_60 qPk ++ wGo xGo cI cZ gGo) H → va_D A (wPk xPk cI cZ gPk_60 qPk ++ wGo xGo cI cZ gGo) → va_S A s.heap H locs → lv_has ls 4 [(0, .ref (xPk 0)), (1, .ref (xGo 0)), (2, .int v2_60), (3, .int v3_60)] → f_Pk_placeInRow_J60 kc_7 v2_60 v3_60 gPk_60 = some gPk1 → W p l e rm_Pk_placeInRow_r s m args below meth c H locs 0 0 Q (F0 m 60 ls []) := by
          intro v2_60 v3_60 gPk_60 H locs ls hP hD hS hl h
          unfold f_Pk_placeInRow_J60 at h
          obtain ⟨x_5, ex_5, h⟩ := letb_i h
          refine lv_iinc (v := x_5) (lv' := [(3, .int x_5), (0, .ref (xPk 0)), (1, .ref (xGo 0)), (2, .int v2_60)]) hx hb d_Pk_placeInRow_60 hl (k := 3) rfl (by rw [ex_5]; rfl) (by decide) rfl (fun ls hl => ?_)
          refine lv_goto (tgt := 7) hx hb d_Pk_placeInRow_63 (by decide) ?_
          exact ih v2_60 x_5 gPk_60 H locs ls hP hD hS (lv_sub hl [1, 2, 3, 0] rfl) h
        refine lv_icmp_ne (tgt := 33) hx hb d_Pk_placeInRow_20 (by decide) (fun c_6 => ?_) (fun c_6 => ?_)
        · rw [if_neg c_6] at h
          refine lv_aload_n hx hb d_Pk_placeInRow_33 rfl (lv_at hl 0 rfl) ?_
          refine va_get (ci := 4) (v := .ref (xPk 3)) (C := R_Pk) (T := F_Pk) (N := 8) hx hb hts i_Pk hown hK hP 0 rfl rfl 2 (by decide) (hts _ m_108) (fun _ h9 => h9) rfl d_Pk_placeInRow_34 ?_
          refine lv_iload_n hx hb d_Pk_placeInRow_37 rfl (lv_at hl 3 rfl) ?_
          refine lv_iload_n hx hb d_Pk_placeInRow_38 rfl (lv_at hl 2 rfl) ?_
          obtain ⟨hi_7, h⟩ := gb_i h
          refine va_iast hx hb hK hP hD hS 3 0 rfl rfl (inb_in hi_7) d_Pk_placeInRow_39 (fun H locs hP hD hS => ?_)
          obtain ⟨gPk_8, egPk_8, h⟩ := letb_i h
          have hP : va_P D vwCl (wPk xPk cI cZ gPk_8 qPk ++ wGo xGo cI cZ gGo) H := by rw [egPk_8, u_Pk_3, set_l (Nat.le_of_ble_eq_true rfl)]; exact hP
          have hD : va_D A (wPk xPk cI cZ gPk_8 qPk ++ wGo xGo cI cZ gGo) := by rw [egPk_8, u_Pk_3, set_l (Nat.le_of_ble_eq_true rfl)]; exact hD
          refine lv_iload_n hx hb d_Pk_placeInRow_40 rfl (lv_at hl 2 rfl) ?_
          refine lv_aload_n hx hb d_Pk_placeInRow_41 rfl (lv_at hl 1 rfl) ?_
          refine lv_iload_n hx hb d_Pk_placeInRow_42 rfl (lv_at hl 3 rfl) ?_
          refine lv_aload_n hx hb d_Pk_placeInRow_43 rfl (lv_at hl 0 rfl) ?_
          refine va_get (ci := 4) (v := .ref (xPk 2)) (C := R_Pk) (T := F_Pk) (N := 8) hx hb hts i_Pk hown hK hP 0 rfl rfl 1 (by decide) (hts _ m_107) (fun _ h9 => h9) rfl d_Pk_placeInRow_44 ?_
          refine lv_iload_n hx hb d_Pk_placeInRow_47 rfl (lv_at hl 3 rfl) ?_
          obtain ⟨hi_9, h⟩ := gb_i h
          refine va_iald hx hb hK hP 2 0 rfl rfl (inb_in hi_9) d_Pk_placeInRow_48 ?_
          obtain ⟨x_10, ex_10, h⟩ := letb_i h
          refine lv_topn ex_10 ?_
          refine lv_iconst (v := 0) hx hb d_Pk_placeInRow_49 (by decide) ?_
          obtain ⟨r_11, hc_12, h⟩ := xv1_i h
          refine cVi (ws' := (wPk xPk cI cZ gPk_8 qPk ++ wGo xGo cI cZ gGo)) (As := [.int v3_7, .int x_10, .int 0]) (rest := [.int v2_7]) C0 hP hD hS hl.1 [5, 6, 7, 8, 9, 10] (c_Go_sizeOf_r l D cI cZ cJ xGo H.size gGo v3_7 x_10 0 r_11 hc_12) k_Go_sizeOf m_470 rfl rfl rfl rfl rfl (rp_same rfl) ⟨by decide, by decide⟩ ⟨rfl, rfl⟩ rfl (Nat.le_of_ble_eq_true rfl) d_Pk_placeInRow_50 ⟨Nat.zero_le _, Nat.zero_le _⟩ (fun H locs hP hD hS => ?_)
          refine lv_aload_n hx hb d_Pk_placeInRow_53 rfl (lv_at hl 0 rfl) ?_
          refine va_get (ci := 4) (v := .int (gPk_8 0 6)) (C := R_Pk) (T := F_Pk) (N := 8) hx hb hts i_Pk hown hK hP 0 rfl rfl 6 (by decide) (hts _ m_112) (fun _ h9 => h9) rfl d_Pk_placeInRow_54 ?_
          refine lv_iadd hx hb d_Pk_placeInRow_57 ?_
          refine lv_iadd hx hb d_Pk_placeInRow_58 ?_
          obtain ⟨x_13, ex_13, h⟩ := letb_i h
          refine lv_topn ex_13 ?_
          refine lv_istore_n (lv' := [(2, .int x_13), (0, .ref (xPk 0)), (1, .ref (xGo 0)), (3, .int v3_7)]) hx hb d_Pk_placeInRow_59 rfl hl (by decide) rfl (fun ls hl => ?_)
          exact K60 x_13 v3_7 gPk_8 H locs ls hP hD hS (lv_sub hl [1, 2, 0, 3] rfl) h
        · rw [if_pos c_6] at h
          refine lv_aload_n hx hb d_Pk_placeInRow_23 rfl (lv_at hl 0 rfl) ?_
          refine va_get (ci := 4) (v := .ref (xPk 3)) (C := R_Pk) (T := F_Pk) (N := 8) hx hb hts i_Pk hown hK hP 0 rfl rfl 2 (by decide) (hts _ m_108) (fun _ h9 => h9) rfl d_Pk_placeInRow_24 ?_
          refine lv_iload_n hx hb d_Pk_placeInRow_27 rfl (lv_at hl 3 rfl) ?_
          refine lv_iconst (v := (-1)) hx hb d_Pk_placeInRow_28 (by decide) ?_
          obtain ⟨hi_14, h⟩ := gb_i h
          refine va_iast hx hb hK hP hD hS 3 0 rfl rfl (inb_in hi_14) d_Pk_placeInRow_29 (fun H locs hP hD hS => ?_)
          obtain ⟨gPk_15, egPk_15, h⟩ := letb_i h
          have hP : va_P D vwCl (wPk xPk cI cZ gPk_15 qPk ++ wGo xGo cI cZ gGo) H := by rw [egPk_15, u_Pk_3, set_l (Nat.le_of_ble_eq_true rfl)]; exact hP
          have hD : va_D A (wPk xPk cI cZ gPk_15 qPk ++ wGo xGo cI cZ gGo) := by rw [egPk_15, u_Pk_3, set_l (Nat.le_of_ble_eq_true rfl)]; exact hD
          refine lv_goto (tgt := 60) hx hb d_Pk_placeInRow_30 (by decide) ?_
          exact K60 v2_7 v3_7 gPk_15 H locs ls hP hD hS (lv_sub hl [0, 1, 2, 3] rfl) h
  exact K7 FU x_1 0 gPk H locs ls hP hD hS (lv_sub hl [2, 3, 1, 0] rfl) h
abbrev rm_Pk_packSet_r : Room := { frames := 4, cells := 0, slots := 0, locals := 133 }
set_option maxRecDepth 100000 in
set_option maxHeartbeats 4000000 in
theorem c_Pk_packSet_r (l : Launch) (D : va_G) (cI cZ cJ : ClassId) (xPk : Nat → Nat) (xGo : Nat → Nat) (sz : Nat) (gPk : St) (qPk : Int64) (gGo : St) (p1 : Int32) (p2 : Int32) (r : Int32) (gPk1 : St) (qPk1 : Int64) (h : f_Pk_packSet gPk qPk gGo p1 p2 = some (.inl (r, gPk1, qPk1))) : MI l y_Pk_packSet b_Pk_packSet 5 (some .int) rm_Pk_packSet_r D (TYS cI cZ cJ) [.ref (xPk 0), .ref (xGo 0), .int p1, .int p2] (wPk xPk cI cZ gPk qPk ++ wGo xGo cI cZ gGo) sz r (wPk xPk cI cZ gPk1 qPk1 ++ wGo xGo cI cZ gGo) := by
  refine mi_start (own := R_Pk) (by decide +kernel) rfl (Nat.le_of_ble_eq_true rfl) (fun p e s m args below meth c A ls C0 hr hlk hP hD hS hl => ?_)
  obtain ⟨Q, hQ⟩ : ∃ Q, Q = QI below D (TYS cI cZ cJ) A (wPk xPk cI cZ gPk1 qPk1 ++ wGo xGo cI cZ gGo) r args s := ⟨_, rfl⟩
  rw [← hQ]
  obtain ⟨hx, hb, -, hown, hts, hK, hE, -⟩ := id C0
  have hl : lv_has ls 5 [(0, .ref (xPk 0)), (1, .ref (xGo 0)), (2, .int p1), (3, .int p2)] := hl
  obtain ⟨H, hH⟩ : ∃ H, H = s.heap := ⟨_, rfl⟩
  have hP : va_P D vwCl (wPk xPk cI cZ gPk qPk ++ wGo xGo cI cZ gGo) H := by rw [hH]; exact hP
  have hS : va_S A s.heap H [] := by rw [hH]; exact hS
  rw [show W p l e rm_Pk_packSet_r s m args below meth c s.heap = W p l e rm_Pk_packSet_r s m args below meth c H by rw [hH]]
  generalize ([] : List Loc) = locs at hS ⊢
  unfold f_Pk_packSet at h
  refine lv_iload_n hx hb d_Pk_packSet_0 rfl (lv_at hl 2 rfl) ?_
  refine lv_aload_n hx hb d_Pk_packSet_1 rfl (lv_at hl 1 rfl) ?_
  refine va_getN (ci := 2) (v := .int (gGo 0 5)) (C := R_Go) (T := F_Go) (N := 6) hx hb hts i_Go hown hK hP 5 rfl rfl 5 (by decide) (va_Nw.use rfl (hE.1 _ (List.mem_of_getElem? (i := 1) rfl))) (fun _ h9 => h9) rfl d_Pk_packSet_2 ?_
  refine lv_ishr hx hb d_Pk_packSet_5 ?_
  refine lv_if_eq (tgt := 19) hx hb d_Pk_packSet_6 (by decide) (fun c_1 => ?_) (fun c_1 => ?_)
  · rw [if_pos c_1] at h
    refine lv_iload_n hx hb d_Pk_packSet_19 rfl (lv_at hl 2 rfl) ?_
    refine lv_if_ne (tgt := 33) hx hb d_Pk_packSet_20 (by decide) (fun c_2 => ?_) (fun c_2 => ?_)
    · rw [if_neg c_2] at h
      refine lv_iload_n hx hb d_Pk_packSet_33 rfl (lv_at hl 3 rfl) ?_
      refine lv_iconst (v := 0) hx hb d_Pk_packSet_34 (by decide) ?_
      refine lv_bipush (v := 20) hx hb d_Pk_packSet_35 (by decide) ?_
      obtain ⟨hc_3, h⟩ | ⟨E9, hc_3, h⟩ := xc0_i h
      rotate_left
      · cases h
      refine cNv (ws' := (wPk xPk cI cZ gPk qPk ++ wGo xGo cI cZ gGo)) (As := [.int p2, .int 0, .int 20]) (rest := []) C0 hP hD hS hl.1 [] (c_Cc_requireRange_r l D cI cZ cJ  H.size p2 0 20 hc_3) k_Cc_requireRange (List.mem_of_getElem? (i := 6) rfl) rfl rfl rfl (rp_same rfl) ⟨by decide, by decide⟩ ⟨rfl, rfl⟩ rfl (Nat.le_of_ble_eq_true rfl) d_Pk_packSet_37 ⟨Nat.zero_le _, Nat.zero_le _⟩ (fun H locs hP hD hS => ?_)
      refine lv_iconst (v := 0) hx hb d_Pk_packSet_40 (by decide) ?_
      refine lv_istore (lv' := [(4, .int 0), (0, .ref (xPk 0)), (1, .ref (xGo 0)), (2, .int p1), (3, .int p2)]) hx hb d_Pk_packSet_41 hl (by decide) rfl (fun ls hl => ?_)
      have K78 : ∀ (v4_78 : Int32) (H : Heap) (locs : List Loc) (ls : Array Slot), va_P D vwCl (wPk xPk cI cZ gPk qPk ++ wGo xGo cI cZ gGo) H → va_D A (wPk xPk cI cZ gPk qPk ++ wGo xGo cI cZ gGo) → va_S A s.heap H locs → lv_has ls 5 [(0, .ref (xPk 0)), (1, .ref (xGo 0)), (2, .int p1), (3, .int p2), (4, .int v4_78)] → f_Pk_packSet_X78 gPk qPk gGo p1 p2 v4_78 = some (.inl (r, gPk1, qPk1)) → W p l e rm_Pk_packSet_r s m args below meth c H locs 0 0 Q (F0 m 78 ls []) := by
        intro v4_78 H locs ls hP hD hS hl h
        unfold f_Pk_packSet_X78 at h
        refine lv_aload_n hx hb d_Pk_packSet_78 rfl (lv_at hl 0 rfl) ?_
        refine lv_iload_n hx hb d_Pk_packSet_79 rfl (lv_at hl 2 rfl) ?_
        refine va_put (ci := 4) (v := .int p1) (ty := .int) (C := R_Pk) (T := F_Pk) (N := 8) hx hb hts i_Pk t_Pk o_Pk n_Pk hown hK hP hD hS 0 rfl rfl 5 (by decide) (hts _ m_111) (fun _ h9 => h9) rfl (by decide +kernel) rfl rfl (Nat.le_of_ble_eq_true rfl) d_Pk_packSet_80 (fun H locs hP hD hS => ?_)
        obtain ⟨gPk_4, egPk_4, h⟩ := letb_i h
        have hP : va_P D vwCl (wPk xPk cI cZ gPk_4 qPk ++ wGo xGo cI cZ gGo) H := by rw [egPk_4, u_Pk_0_5, set_l (Nat.le_of_ble_eq_true rfl)]; exact hP
        have hD : va_D A (wPk xPk cI cZ gPk_4 qPk ++ wGo xGo cI cZ gGo) := by rw [egPk_4, u_Pk_0_5, set_l (Nat.le_of_ble_eq_true rfl)]; exact hD
        refine lv_aload_n hx hb d_Pk_packSet_83 rfl (lv_at hl 0 rfl) ?_
        refine lv_iload_n hx hb d_Pk_packSet_84 rfl (lv_at hl 3 rfl) ?_
        refine va_put (ci := 4) (v := .int p2) (ty := .int) (C := R_Pk) (T := F_Pk) (N := 8) hx hb hts i_Pk t_Pk o_Pk n_Pk hown hK hP hD hS 0 rfl rfl 6 (by decide) (hts _ m_112) (fun _ h9 => h9) rfl (by decide +kernel) rfl rfl (Nat.le_of_ble_eq_true rfl) d_Pk_packSet_85 (fun H locs hP hD hS => ?_)
        obtain ⟨gPk_5, egPk_5, h⟩ := letb_i h
        have hP : va_P D vwCl (wPk xPk cI cZ gPk_5 qPk ++ wGo xGo cI cZ gGo) H := by rw [egPk_5, u_Pk_0_6, set_l (Nat.le_of_ble_eq_true rfl)]; exact hP
        have hD : va_D A (wPk xPk cI cZ gPk_5 qPk ++ wGo xGo cI cZ gGo) := by rw [egPk_5, u_Pk_0_6, set_l (Nat.le_of_ble_eq_true rfl)]; exact hD
        refine lv_aload_n hx hb d_Pk_packSet_88 rfl (lv_at hl 0 rfl) ?_
        refine lv_aload_n hx hb d_Pk_packSet_89 rfl (lv_at hl 1 rfl) ?_
        obtain ⟨gPk_6, qPk_7, hc_8, h⟩ := xv2_i h
        refine cVv (ws' := (wPk xPk cI cZ gPk_6 qPk_7 ++ wGo xGo cI cZ gGo)) (As := [.ref (xGo 0)]) (rest := []) C0 hP hD hS hl.1 [0, 1, 2, 3, 4, 5, 6, 7, 8, 9, 10] (c_Pk_findLeast_r l D cI cZ cJ xPk xGo H.size gPk_5 qPk gGo gPk_6 qPk_7 hc_8) k_Pk_findLeast m_447 rfl rfl rfl rfl rfl (rp_all rfl rfl) ⟨by decide, by decide⟩ ⟨rfl, rfl⟩ rfl (Nat.le_of_ble_eq_true rfl) d_Pk_packSet_90 ⟨Nat.zero_le _, Nat.zero_le _⟩ (fun H locs hP hD hS => ?_)
        refine lv_aload_n hx hb d_Pk_packSet_93 rfl (lv_at hl 0 rfl) ?_
        refine lv_aload_n hx hb d_Pk_packSet_94 rfl (lv_at hl 1 rfl) ?_
        obtain ⟨gPk_9, hc_10, h⟩ := xv1_i h
        refine cVv (ws' := (wPk xPk cI cZ gPk_9 qPk_7 ++ wGo xGo cI cZ gGo)) (As := [.ref (xGo 0)]) (rest := []) C0 hP hD hS hl.1 [0, 1, 2, 3, 4, 5, 6, 7, 8, 9, 10] (c_Pk_placeInRow_r l D cI cZ cJ xPk xGo H.size gPk_6 qPk_7 gGo gPk_9 hc_10) k_Pk_placeInRow m_482 rfl rfl rfl rfl rfl (rp_all rfl rfl) ⟨by decide, by decide⟩ ⟨rfl, rfl⟩ rfl (Nat.le_of_ble_eq_true rfl) d_Pk_packSet_95 ⟨Nat.zero_le _, Nat.zero_le _⟩ (fun H locs hP hD hS => ?_)
        refine lv_aload_n hx hb d_Pk_packSet_98 rfl (lv_at hl 0 rfl) ?_
        refine lv_iconst (v := 1) hx hb d_Pk_packSet_99 (by decide) ?_
        refine va_put (ci := 4) (v := .int 1) (ty := .boolean) (C := R_Pk) (T := F_Pk) (N := 8) hx hb hts i_Pk t_Pk o_Pk n_Pk hown hK hP hD hS 0 rfl rfl 4 (by decide) (hts _ m_110) (fun _ h9 => h9) rfl (by decide +kernel) rfl rfl (Nat.le_of_ble_eq_true rfl) d_Pk_packSet_100 (fun H locs hP hD hS => ?_)
        obtain ⟨gPk_11, egPk_11, h⟩ := letb_i h
        have hP : va_P D vwCl (wPk xPk cI cZ gPk_11 qPk_7 ++ wGo xGo cI cZ gGo) H := by rw [egPk_11, u_Pk_0_4, set_l (Nat.le_of_ble_eq_true rfl)]; exact hP
        have hD : va_D A (wPk xPk cI cZ gPk_11 qPk_7 ++ wGo xGo cI cZ gGo) := by rw [egPk_11, u_Pk_0_4, set_l (Nat.le_of_ble_eq_true rfl)]; exact hD
        refine lv_iload_n hx hb d_Pk_packSet_103 rfl (lv_at hl 2 rfl) ?_
        obtain ⟨r_12, hc_13, h⟩ := xv1_i h
        refine cSi (ws' := (wPk xPk cI cZ gPk_11 qPk_7 ++ wGo xGo cI cZ gGo)) (As := [.int p1]) (rest := []) C0 hP hD hS hl.1 [] (c_In_bitCount_r l D cI cZ cJ  H.size p1 r_12 hc_13) k_In_bitCount m_486 rfl rfl rfl (rp_same rfl) ⟨by decide, by decide⟩ ⟨rfl, rfl⟩ rfl (Nat.le_of_ble_eq_true rfl) d_Pk_packSet_104 ⟨Nat.zero_le _, Nat.zero_le _⟩ (fun H locs hP hD hS => ?_)
        cases h
        rw [hQ]
        exact mi_ret C0 hr rfl hlk hP hD hS d_Pk_packSet_107
      have K43 : ∀ (n : Nat) (v4_43 : Int32) (H : Heap) (locs : List Loc) (ls : Array Slot), va_P D vwCl (wPk xPk cI cZ gPk qPk ++ wGo xGo cI cZ gGo) H → va_D A (wPk xPk cI cZ gPk qPk ++ wGo xGo cI cZ gGo) → va_S A s.heap H locs → lv_has ls 5 [(0, .ref (xPk 0)), (1, .ref (xGo 0)), (2, .int p1), (3, .int p2), (4, .int v4_43)] → it1 (f_Pk_packSet_L43 gPk qPk gGo p1 p2) n v4_43 = some (.inl (r, gPk1, qPk1)) → W p l e rm_Pk_packSet_r s m args below meth c H locs 0 0 Q (F0 m 43 ls []) := by
        intro n
        induction n with
        | zero => intro v4_43 H locs ls hP hD hS hl h; exact (it1_0 h).elim
        | succ n ih =>
          intro v4_43 H locs ls hP hD hS hl h
          rw [it1_s, f_Pk_packSet_L43] at h
          generalize it1 (f_Pk_packSet_L43 gPk qPk gGo p1 p2) n = kc_43 at h ih
          refine lv_iload hx hb d_Pk_packSet_43 (lv_at hl 4 rfl) ?_
          refine lv_aload_n hx hb d_Pk_packSet_45 rfl (lv_at hl 1 rfl) ?_
          refine va_getN (ci := 2) (v := .int (gGo 0 5)) (C := R_Go) (T := F_Go) (N := 6) hx hb hts i_Go hown hK hP 5 rfl rfl 5 (by decide) (va_Nw.use rfl (hE.1 _ (List.mem_of_getElem? (i := 1) rfl))) (fun _ h9 => h9) rfl d_Pk_packSet_46 ?_
          refine lv_icmp_ge (tgt := 78) hx hb d_Pk_packSet_49 (by decide) (fun c_14 => ?_) (fun c_14 => ?_)
          · rw [if_pos c_14] at h
            exact K78 v4_43 H locs ls hP hD hS (lv_sub hl [0, 1, 2, 3, 4] rfl) h
          · rw [if_neg c_14] at h
            refine lv_iload_n hx hb d_Pk_packSet_52 rfl (lv_at hl 2 rfl) ?_
            refine lv_iload hx hb d_Pk_packSet_53 (lv_at hl 4 rfl) ?_
            obtain ⟨r_15, hc_16, h⟩ := xv1_i h
            refine cSi (ws' := (wPk xPk cI cZ gPk qPk ++ wGo xGo cI cZ gGo)) (As := [.int p1, .int v4_43]) (rest := []) C0 hP hD hS hl.1 [] (c_Pk_isIn_r l D cI cZ cJ  H.size p1 v4_43 r_15 hc_16) k_Pk_isIn m_440 rfl rfl rfl (rp_same rfl) ⟨by decide, by decide⟩ ⟨rfl, rfl⟩ rfl (Nat.le_of_ble_eq_true rfl) d_Pk_packSet_55 ⟨Nat.zero_le _, Nat.zero_le _⟩ (fun H locs hP hD hS => ?_)
            have K72 : ∀ (v4_72 : Int32) (H : Heap) (locs : List Loc) (ls : Array Slot), va_P D vwCl (wPk xPk cI cZ gPk qPk ++ wGo xGo cI cZ gGo) H → va_D A (wPk xPk cI cZ gPk qPk ++ wGo xGo cI cZ gGo) → va_S A s.heap H locs → lv_has ls 5 [(0, .ref (xPk 0)), (1, .ref (xGo 0)), (2, .int p1), (3, .int p2), (4, .int v4_72)] → f_Pk_packSet_J72 kc_43 v4_72 = some (.inl (r, gPk1, qPk1)) → W p l e rm_Pk_packSet_r s m args below meth c H locs 0 0 Q (F0 m 72 ls []) := by
              intro v4_72 H locs ls hP hD hS hl h
              unfold f_Pk_packSet_J72 at h
              obtain ⟨x_17, ex_17, h⟩ := letb_i h
              refine lv_iinc (v := x_17) (lv' := [(4, .int x_17), (0, .ref (xPk 0)), (1, .ref (xGo 0)), (2, .int p1), (3, .int p2)]) hx hb d_Pk_packSet_72 hl (k := 4) rfl (by rw [ex_17]; rfl) (by decide) rfl (fun ls hl => ?_)
              refine lv_goto (tgt := 43) hx hb d_Pk_packSet_75 (by decide) ?_
              exact ih x_17 H locs ls hP hD hS (lv_sub hl [1, 2, 3, 4, 0] rfl) h
            refine lv_if_eq (tgt := 72) hx hb d_Pk_packSet_58 (by decide) (fun c_18 => ?_) (fun c_18 => ?_)
            · rw [if_pos c_18] at h
              exact K72 v4_43 H locs ls hP hD hS (lv_sub hl [0, 1, 2, 3, 4] rfl) h
            · rw [if_neg c_18] at h
              refine lv_aload_n hx hb d_Pk_packSet_61 rfl (lv_at hl 1 rfl) ?_
              refine lv_iload hx hb d_Pk_packSet_62 (lv_at hl 4 rfl) ?_
              obtain ⟨r_19, hc_20, h⟩ := xv1_i h
              refine cVi (ws' := (wPk xPk cI cZ gPk qPk ++ wGo xGo cI cZ gGo)) (As := [.int v4_43]) (rest := []) C0 hP hD hS hl.1 [5, 6, 7, 8, 9, 10] (c_Go_mayStandAnyhow_r l D cI cZ cJ xGo H.size gGo v4_43 r_19 hc_20) k_Go_mayStandAnyhow m_443 rfl rfl rfl rfl rfl (rp_same rfl) ⟨by decide, by decide⟩ ⟨rfl, rfl⟩ rfl (Nat.le_of_ble_eq_true rfl) d_Pk_packSet_64 ⟨Nat.zero_le _, Nat.zero_le _⟩ (fun H locs hP hD hS => ?_)
              refine lv_if_ne (tgt := 72) hx hb d_Pk_packSet_67 (by decide) (fun c_21 => ?_) (fun c_21 => ?_)
              · rw [if_neg c_21] at h
                exact K72 v4_43 H locs ls hP hD hS (lv_sub hl [0, 1, 2, 3, 4] rfl) h
              · rw [if_pos c_21] at h
                refine lv_iconst (v := (-1)) hx hb d_Pk_packSet_70 (by decide) ?_
                cases h
                rw [hQ]
                exact mi_ret C0 hr rfl hlk hP hD hS d_Pk_packSet_71
      exact K43 FU 0 H locs ls hP hD hS (lv_sub hl [1, 2, 3, 4, 0] rfl) h
    · rw [if_pos c_2] at h
      cases h
  · rw [if_neg c_1] at h
    cases h
abbrev rm_Pk_packSet_t : Room := { frames := 7, cells := 1, slots := 6, locals := 133 }
set_option maxRecDepth 100000 in
set_option maxHeartbeats 4000000 in
theorem c_Pk_packSet_t (l : Launch) (hltr : l.stackTraces = false) (D : va_G) (cI cZ cJ : ClassId) (xPk : Nat → Nat) (xGo : Nat → Nat) (sz : Nat) (gPk : St) (qPk : Int64) (gGo : St) (p1 : Int32) (p2 : Int32) (E : String) (h : f_Pk_packSet gPk qPk gGo p1 p2 = some (.inr E)) : MT l y_Pk_packSet b_Pk_packSet 5 (some .int) rm_Pk_packSet_t D (TYS cI cZ cJ) [.ref (xPk 0), .ref (xGo 0), .int p1, .int p2] (wPk xPk cI cZ gPk qPk ++ wGo xGo cI cZ gGo) sz E := by
  refine mt_start (own := R_Pk) (by decide +kernel) rfl (Nat.le_of_ble_eq_true rfl) (fun p e s m args below meth c A ls C0 hAe hno hlk hP hD hS hl => ?_)
  obtain ⟨Q, hQ⟩ : ∃ Q, Q = QT below D (TYS cI cZ cJ) (wPk xPk cI cZ gPk qPk ++ wGo xGo cI cZ gGo) E args s := ⟨_, rfl⟩
  rw [← hQ]
  obtain ⟨hx, hb, -, hown, hts, hK, hE, -⟩ := id C0
  have hl : lv_has ls 5 [(0, .ref (xPk 0)), (1, .ref (xGo 0)), (2, .int p1), (3, .int p2)] := hl
  obtain ⟨H, hH⟩ : ∃ H, H = s.heap := ⟨_, rfl⟩
  have hP : va_P D vwCl (wPk xPk cI cZ gPk qPk ++ wGo xGo cI cZ gGo) H := by rw [hH]; exact hP
  have hS : va_S A s.heap H [] := by rw [hH]; exact hS
  rw [show W p l e rm_Pk_packSet_t s m args below meth c s.heap = W p l e rm_Pk_packSet_t s m args below meth c H by rw [hH]]
  generalize ([] : List Loc) = locs at hS ⊢
  unfold f_Pk_packSet at h
  refine lv_iload_n hx hb d_Pk_packSet_0 rfl (lv_at hl 2 rfl) ?_
  refine lv_aload_n hx hb d_Pk_packSet_1 rfl (lv_at hl 1 rfl) ?_
  refine va_getN (ci := 2) (v := .int (gGo 0 5)) (C := R_Go) (T := F_Go) (N := 6) hx hb hts i_Go hown hK hP 5 rfl rfl 5 (by decide) (va_Nw.use rfl (hE.1 _ (List.mem_of_getElem? (i := 1) rfl))) (fun _ h9 => h9) rfl d_Pk_packSet_2 ?_
  refine lv_ishr hx hb d_Pk_packSet_5 ?_
  refine lv_if_eq (tgt := 19) hx hb d_Pk_packSet_6 (by decide) (fun c_1 => ?_) (fun c_1 => ?_)
  · rw [if_pos c_1] at h
    refine lv_iload_n hx hb d_Pk_packSet_19 rfl (lv_at hl 2 rfl) ?_
    refine lv_if_ne (tgt := 33) hx hb d_Pk_packSet_20 (by decide) (fun c_2 => ?_) (fun c_2 => ?_)
    · rw [if_neg c_2] at h
      refine lv_iload_n hx hb d_Pk_packSet_33 rfl (lv_at hl 3 rfl) ?_
      refine lv_iconst (v := 0) hx hb d_Pk_packSet_34 (by decide) ?_
      refine lv_bipush (v := 20) hx hb d_Pk_packSet_35 (by decide) ?_
      obtain ⟨hc_3, h⟩ | ⟨E9, hc_3, h⟩ := xc0_i h
      rotate_left
      · cases h
        rw [hQ]
        exact x_out C0 hAe hno hlk hP hD hS [] rfl rfl rfl (rN (As := [.int p2, .int 0, .int 20]) (rest := []) C0 hP hD hS hl.1 [] (c_Cc_requireRange_t l hltr D cI cZ cJ  H.size p2 0 20 E hc_3) k_Cc_requireRange (List.mem_of_getElem? (i := 6) rfl) rfl rfl ⟨by decide, by decide⟩ ⟨rfl, rfl⟩ rfl (Nat.le_of_ble_eq_true rfl) d_Pk_packSet_37 ⟨by decide, by decide⟩) ⟨rfl, rfl⟩
      refine cNv (ws' := (wPk xPk cI cZ gPk qPk ++ wGo xGo cI cZ gGo)) (As := [.int p2, .int 0, .int 20]) (rest := []) C0 hP hD hS hl.1 [] (c_Cc_requireRange_r l D cI cZ cJ  H.size p2 0 20 hc_3) k_Cc_requireRange (List.mem_of_getElem? (i := 6) rfl) rfl rfl rfl (rp_same rfl) ⟨by decide, by decide⟩ ⟨rfl, rfl⟩ rfl (Nat.le_of_ble_eq_true rfl) d_Pk_packSet_37 ⟨Nat.zero_le _, Nat.zero_le _⟩ (fun H locs hP hD hS => ?_)
      refine lv_iconst (v := 0) hx hb d_Pk_packSet_40 (by decide) ?_
      refine lv_istore (lv' := [(4, .int 0), (0, .ref (xPk 0)), (1, .ref (xGo 0)), (2, .int p1), (3, .int p2)]) hx hb d_Pk_packSet_41 hl (by decide) rfl (fun ls hl => ?_)
      have K78 : ∀ (v4_78 : Int32) (H : Heap) (locs : List Loc) (ls : Array Slot), va_P D vwCl (wPk xPk cI cZ gPk qPk ++ wGo xGo cI cZ gGo) H → va_D A (wPk xPk cI cZ gPk qPk ++ wGo xGo cI cZ gGo) → va_S A s.heap H locs → lv_has ls 5 [(0, .ref (xPk 0)), (1, .ref (xGo 0)), (2, .int p1), (3, .int p2), (4, .int v4_78)] → f_Pk_packSet_X78 gPk qPk gGo p1 p2 v4_78 = some (.inr E) → W p l e rm_Pk_packSet_t s m args below meth c H locs 0 0 Q (F0 m 78 ls []) := by
        intro v4_78 H locs ls hP hD hS hl h
        unfold f_Pk_packSet_X78 at h
        refine lv_aload_n hx hb d_Pk_packSet_78 rfl (lv_at hl 0 rfl) ?_
        refine lv_iload_n hx hb d_Pk_packSet_79 rfl (lv_at hl 2 rfl) ?_
        refine va_put (ci := 4) (v := .int p1) (ty := .int) (C := R_Pk) (T := F_Pk) (N := 8) hx hb hts i_Pk t_Pk o_Pk n_Pk hown hK hP hD hS 0 rfl rfl 5 (by decide) (hts _ m_111) (fun _ h9 => h9) rfl (by decide +kernel) rfl rfl (Nat.le_of_ble_eq_true rfl) d_Pk_packSet_80 (fun H locs hP hD hS => ?_)
        obtain ⟨gPk_4, egPk_4, h⟩ := letb_i h
        have hP : va_P D vwCl (wPk xPk cI cZ gPk_4 qPk ++ wGo xGo cI cZ gGo) H := by rw [egPk_4, u_Pk_0_5, set_l (Nat.le_of_ble_eq_true rfl)]; exact hP
        have hD : va_D A (wPk xPk cI cZ gPk_4 qPk ++ wGo xGo cI cZ gGo) := by rw [egPk_4, u_Pk_0_5, set_l (Nat.le_of_ble_eq_true rfl)]; exact hD
        refine lv_aload_n hx hb d_Pk_packSet_83 rfl (lv_at hl 0 rfl) ?_
        refine lv_iload_n hx hb d_Pk_packSet_84 rfl (lv_at hl 3 rfl) ?_
        refine va_put (ci := 4) (v := .int p2) (ty := .int) (C := R_Pk) (T := F_Pk) (N := 8) hx hb hts i_Pk t_Pk o_Pk n_Pk hown hK hP hD hS 0 rfl rfl 6 (by decide) (hts _ m_112) (fun _ h9 => h9) rfl (by decide +kernel) rfl rfl (Nat.le_of_ble_eq_true rfl) d_Pk_packSet_85 (fun H locs hP hD hS => ?_)
        obtain ⟨gPk_5, egPk_5, h⟩ := letb_i h
        have hP : va_P D vwCl (wPk xPk cI cZ gPk_5 qPk ++ wGo xGo cI cZ gGo) H := by rw [egPk_5, u_Pk_0_6, set_l (Nat.le_of_ble_eq_true rfl)]; exact hP
        have hD : va_D A (wPk xPk cI cZ gPk_5 qPk ++ wGo xGo cI cZ gGo) := by rw [egPk_5, u_Pk_0_6, set_l (Nat.le_of_ble_eq_true rfl)]; exact hD
        refine lv_aload_n hx hb d_Pk_packSet_88 rfl (lv_at hl 0 rfl) ?_
        refine lv_aload_n hx hb d_Pk_packSet_89 rfl (lv_at hl 1 rfl) ?_
        obtain ⟨gPk_6, qPk_7, hc_8, h⟩ := xv2_i h
        refine cVv (ws' := (wPk xPk cI cZ gPk_6 qPk_7 ++ wGo xGo cI cZ gGo)) (As := [.ref (xGo 0)]) (rest := []) C0 hP hD hS hl.1 [0, 1, 2, 3, 4, 5, 6, 7, 8, 9, 10] (c_Pk_findLeast_r l D cI cZ cJ xPk xGo H.size gPk_5 qPk gGo gPk_6 qPk_7 hc_8) k_Pk_findLeast m_447 rfl rfl rfl rfl rfl (rp_all rfl rfl) ⟨by decide, by decide⟩ ⟨rfl, rfl⟩ rfl (Nat.le_of_ble_eq_true rfl) d_Pk_packSet_90 ⟨Nat.zero_le _, Nat.zero_le _⟩ (fun H locs hP hD hS => ?_)
        refine lv_aload_n hx hb d_Pk_packSet_93 rfl (lv_at hl 0 rfl) ?_
        refine lv_aload_n hx hb d_Pk_packSet_94 rfl (lv_at hl 1 rfl) ?_
        obtain ⟨gPk_9, hc_10, h⟩ := xv1_i h
        refine cVv (ws' := (wPk xPk cI cZ gPk_9 qPk_7 ++ wGo xGo cI cZ gGo)) (As := [.ref (xGo 0)]) (rest := []) C0 hP hD hS hl.1 [0, 1, 2, 3, 4, 5, 6, 7, 8, 9, 10] (c_Pk_placeInRow_r l D cI cZ cJ xPk xGo H.size gPk_6 qPk_7 gGo gPk_9 hc_10) k_Pk_placeInRow m_482 rfl rfl rfl rfl rfl (rp_all rfl rfl) ⟨by decide, by decide⟩ ⟨rfl, rfl⟩ rfl (Nat.le_of_ble_eq_true rfl) d_Pk_packSet_95 ⟨Nat.zero_le _, Nat.zero_le _⟩ (fun H locs hP hD hS => ?_)
        refine lv_aload_n hx hb d_Pk_packSet_98 rfl (lv_at hl 0 rfl) ?_
        refine lv_iconst (v := 1) hx hb d_Pk_packSet_99 (by decide) ?_
        refine va_put (ci := 4) (v := .int 1) (ty := .boolean) (C := R_Pk) (T := F_Pk) (N := 8) hx hb hts i_Pk t_Pk o_Pk n_Pk hown hK hP hD hS 0 rfl rfl 4 (by decide) (hts _ m_110) (fun _ h9 => h9) rfl (by decide +kernel) rfl rfl (Nat.le_of_ble_eq_true rfl) d_Pk_packSet_100 (fun H locs hP hD hS => ?_)
        obtain ⟨gPk_11, egPk_11, h⟩ := letb_i h
        have hP : va_P D vwCl (wPk xPk cI cZ gPk_11 qPk_7 ++ wGo xGo cI cZ gGo) H := by rw [egPk_11, u_Pk_0_4, set_l (Nat.le_of_ble_eq_true rfl)]; exact hP
        have hD : va_D A (wPk xPk cI cZ gPk_11 qPk_7 ++ wGo xGo cI cZ gGo) := by rw [egPk_11, u_Pk_0_4, set_l (Nat.le_of_ble_eq_true rfl)]; exact hD
        refine lv_iload_n hx hb d_Pk_packSet_103 rfl (lv_at hl 2 rfl) ?_
        obtain ⟨r_12, hc_13, h⟩ := xv1_i h
        refine cSi (ws' := (wPk xPk cI cZ gPk_11 qPk_7 ++ wGo xGo cI cZ gGo)) (As := [.int p1]) (rest := []) C0 hP hD hS hl.1 [] (c_In_bitCount_r l D cI cZ cJ  H.size p1 r_12 hc_13) k_In_bitCount m_486 rfl rfl rfl (rp_same rfl) ⟨by decide, by decide⟩ ⟨rfl, rfl⟩ rfl (Nat.le_of_ble_eq_true rfl) d_Pk_packSet_104 ⟨Nat.zero_le _, Nat.zero_le _⟩ (fun H locs hP hD hS => ?_)
        cases h
      have K43 : ∀ (n : Nat) (v4_43 : Int32) (H : Heap) (locs : List Loc) (ls : Array Slot), va_P D vwCl (wPk xPk cI cZ gPk qPk ++ wGo xGo cI cZ gGo) H → va_D A (wPk xPk cI cZ gPk qPk ++ wGo xGo cI cZ gGo) → va_S A s.heap H locs → lv_has ls 5 [(0, .ref (xPk 0)), (1, .ref (xGo 0)), (2, .int p1), (3, .int p2), (4, .int v4_43)] → it1 (f_Pk_packSet_L43 gPk qPk gGo p1 p2) n v4_43 = some (.inr E) → W p l e rm_Pk_packSet_t s m args below meth c H locs 0 0 Q (F0 m 43 ls []) := by
        intro n
        induction n with
        | zero => intro v4_43 H locs ls hP hD hS hl h; exact (it1_0 h).elim
        | succ n ih =>
          intro v4_43 H locs ls hP hD hS hl h
          rw [it1_s, f_Pk_packSet_L43] at h
          generalize it1 (f_Pk_packSet_L43 gPk qPk gGo p1 p2) n = kc_43 at h ih
          refine lv_iload hx hb d_Pk_packSet_43 (lv_at hl 4 rfl) ?_
          refine lv_aload_n hx hb d_Pk_packSet_45 rfl (lv_at hl 1 rfl) ?_
          refine va_getN (ci := 2) (v := .int (gGo 0 5)) (C := R_Go) (T := F_Go) (N := 6) hx hb hts i_Go hown hK hP 5 rfl rfl 5 (by decide) (va_Nw.use rfl (hE.1 _ (List.mem_of_getElem? (i := 1) rfl))) (fun _ h9 => h9) rfl d_Pk_packSet_46 ?_
          refine lv_icmp_ge (tgt := 78) hx hb d_Pk_packSet_49 (by decide) (fun c_14 => ?_) (fun c_14 => ?_)
          · rw [if_pos c_14] at h
            exact K78 v4_43 H locs ls hP hD hS (lv_sub hl [0, 1, 2, 3, 4] rfl) h
          · rw [if_neg c_14] at h
            refine lv_iload_n hx hb d_Pk_packSet_52 rfl (lv_at hl 2 rfl) ?_
            refine lv_iload hx hb d_Pk_packSet_53 (lv_at hl 4 rfl) ?_
            obtain ⟨r_15, hc_16, h⟩ := xv1_i h
            refine cSi (ws' := (wPk xPk cI cZ gPk qPk ++ wGo xGo cI cZ gGo)) (As := [.int p1, .int v4_43]) (rest := []) C0 hP hD hS hl.1 [] (c_Pk_isIn_r l D cI cZ cJ  H.size p1 v4_43 r_15 hc_16) k_Pk_isIn m_440 rfl rfl rfl (rp_same rfl) ⟨by decide, by decide⟩ ⟨rfl, rfl⟩ rfl (Nat.le_of_ble_eq_true rfl) d_Pk_packSet_55 ⟨Nat.zero_le _, Nat.zero_le _⟩ (fun H locs hP hD hS => ?_)
            have K72 : ∀ (v4_72 : Int32) (H : Heap) (locs : List Loc) (ls : Array Slot), va_P D vwCl (wPk xPk cI cZ gPk qPk ++ wGo xGo cI cZ gGo) H → va_D A (wPk xPk cI cZ gPk qPk ++ wGo xGo cI cZ gGo) → va_S A s.heap H locs → lv_has ls 5 [(0, .ref (xPk 0)), (1, .ref (xGo 0)), (2, .int p1), (3, .int p2), (4, .int v4_72)] → f_Pk_packSet_J72 kc_43 v4_72 = some (.inr E) → W p l e rm_Pk_packSet_t s m args below meth c H locs 0 0 Q (F0 m 72 ls []) := by
              intro v4_72 H locs ls hP hD hS hl h
              unfold f_Pk_packSet_J72 at h
              obtain ⟨x_17, ex_17, h⟩ := letb_i h
              refine lv_iinc (v := x_17) (lv' := [(4, .int x_17), (0, .ref (xPk 0)), (1, .ref (xGo 0)), (2, .int p1), (3, .int p2)]) hx hb d_Pk_packSet_72 hl (k := 4) rfl (by rw [ex_17]; rfl) (by decide) rfl (fun ls hl => ?_)
              refine lv_goto (tgt := 43) hx hb d_Pk_packSet_75 (by decide) ?_
              exact ih x_17 H locs ls hP hD hS (lv_sub hl [1, 2, 3, 4, 0] rfl) h
            refine lv_if_eq (tgt := 72) hx hb d_Pk_packSet_58 (by decide) (fun c_18 => ?_) (fun c_18 => ?_)
            · rw [if_pos c_18] at h
              exact K72 v4_43 H locs ls hP hD hS (lv_sub hl [0, 1, 2, 3, 4] rfl) h
            · rw [if_neg c_18] at h
              refine lv_aload_n hx hb d_Pk_packSet_61 rfl (lv_at hl 1 rfl) ?_
              refine lv_iload hx hb d_Pk_packSet_62 (lv_at hl 4 rfl) ?_
              obtain ⟨r_19, hc_20, h⟩ := xv1_i h
              refine cVi (ws' := (wPk xPk cI cZ gPk qPk ++ wGo xGo cI cZ gGo)) (As := [.int v4_43]) (rest := []) C0 hP hD hS hl.1 [5, 6, 7, 8, 9, 10] (c_Go_mayStandAnyhow_r l D cI cZ cJ xGo H.size gGo v4_43 r_19 hc_20) k_Go_mayStandAnyhow m_443 rfl rfl rfl rfl rfl (rp_same rfl) ⟨by decide, by decide⟩ ⟨rfl, rfl⟩ rfl (Nat.le_of_ble_eq_true rfl) d_Pk_packSet_64 ⟨Nat.zero_le _, Nat.zero_le _⟩ (fun H locs hP hD hS => ?_)
              refine lv_if_ne (tgt := 72) hx hb d_Pk_packSet_67 (by decide) (fun c_21 => ?_) (fun c_21 => ?_)
              · rw [if_neg c_21] at h
                exact K72 v4_43 H locs ls hP hD hS (lv_sub hl [0, 1, 2, 3, 4] rfl) h
              · rw [if_pos c_21] at h
                refine lv_iconst (v := (-1)) hx hb d_Pk_packSet_70 (by decide) ?_
                cases h
      exact K43 FU 0 H locs ls hP hD hS (lv_sub hl [1, 2, 3, 4, 0] rfl) h
    · rw [if_pos c_2] at h
      cases h
      rw [hQ]
      exact x_new C0 hAe hltr hno hlk hP hD hS hl.1 t_Pk_43 d_Pk_packSet_23 d_Pk_packSet_26 d_Pk_packSet_27 d_Pk_packSet_29 d_Pk_packSet_32 ⟨by decide, Nat.le_of_ble_eq_true rfl, by decide, by decide⟩
  · rw [if_neg c_1] at h
    cases h
    rw [hQ]
    exact x_new C0 hAe hltr hno hlk hP hD hS hl.1 t_Pk_36 d_Pk_packSet_9 d_Pk_packSet_12 d_Pk_packSet_13 d_Pk_packSet_15 d_Pk_packSet_18 ⟨by decide, Nat.le_of_ble_eq_true rfl, by decide, by decide⟩
abbrev rm_Pk_requirePacked_r : Room := { frames := 0, cells := 0, slots := 0, locals := 0 }
set_option maxRecDepth 100000 in
set_option maxHeartbeats 4000000 in
theorem c_Pk_requirePacked_r (l : Launch) (D : va_G) (cI cZ cJ : ClassId) (xPk : Nat → Nat) (sz : Nat) (gPk : St) (qPk : Int64)   (h : f_Pk_requirePacked gPk qPk = some (.inl ())) : MV l y_Pk_requirePacked b_Pk_requirePacked 1 (Option.none : Option Jvm.ClassFile.FieldType) rm_Pk_requirePacked_r D (TYS cI cZ cJ) [.ref (xPk 0)] (wPk xPk cI cZ gPk qPk) sz (wPk xPk cI cZ gPk qPk) := by
  refine mv_start (own := R_Pk) (by decide +kernel) rfl (Nat.le_of_ble_eq_true rfl) (fun p e s m args below meth c A ls C0 hr hlk hP hD hS hl => ?_)
  obtain ⟨Q, hQ⟩ : ∃ Q, Q = QV below D (TYS cI cZ cJ) A (wPk xPk cI cZ gPk qPk) args s := ⟨_, rfl⟩
  rw [← hQ]
  obtain ⟨hx, hb, -, hown, hts, hK, hE, -⟩ := id C0
  have hl : lv_has ls 1 [(0, .ref (xPk 0))] := hl
  obtain ⟨H, hH⟩ : ∃ H, H = s.heap := ⟨_, rfl⟩
  have hP : va_P D vwCl (wPk xPk cI cZ gPk qPk) H := by rw [hH]; exact hP
  have hS : va_S A s.heap H [] := by rw [hH]; exact hS
  rw [show W p l e rm_Pk_requirePacked_r s m args below meth c s.heap = W p l e rm_Pk_requirePacked_r s m args below meth c H by rw [hH]]
  generalize ([] : List Loc) = locs at hS ⊢
  unfold f_Pk_requirePacked at h
  refine lv_aload_n hx hb d_Pk_requirePacked_0 rfl (lv_at hl 0 rfl) ?_
  refine va_get (ci := 4) (v := .int (gPk 0 4)) (C := R_Pk) (T := F_Pk) (N := 8) hx hb hts i_Pk hown hK hP 0 rfl rfl 4 (by decide) (hts _ m_110) (fun _ h9 => h9) rfl d_Pk_requirePacked_1 ?_
  refine lv_if_ne (tgt := 17) hx hb d_Pk_requirePacked_4 (by decide) (fun c_1 => ?_) (fun c_1 => ?_)
  · rw [if_neg c_1] at h
    cases h
    rw [hQ]
    exact mv_ret C0 hr hlk hP hD hS d_Pk_requirePacked_17
  · rw [if_pos c_1] at h
    cases h
abbrev rm_Pk_requirePacked_t : Room := { frames := 6, cells := 1, slots := 6, locals := 82 }
set_option maxRecDepth 100000 in
set_option maxHeartbeats 4000000 in
theorem c_Pk_requirePacked_t (l : Launch) (hltr : l.stackTraces = false) (D : va_G) (cI cZ cJ : ClassId) (xPk : Nat → Nat) (sz : Nat) (gPk : St) (qPk : Int64)  (E : String) (h : f_Pk_requirePacked gPk qPk = some (.inr E)) : MT l y_Pk_requirePacked b_Pk_requirePacked 1 (Option.none : Option Jvm.ClassFile.FieldType) rm_Pk_requirePacked_t D (TYS cI cZ cJ) [.ref (xPk 0)] (wPk xPk cI cZ gPk qPk) sz E := by
  refine mt_start (own := R_Pk) (by decide +kernel) rfl (Nat.le_of_ble_eq_true rfl) (fun p e s m args below meth c A ls C0 hAe hno hlk hP hD hS hl => ?_)
  obtain ⟨Q, hQ⟩ : ∃ Q, Q = QT below D (TYS cI cZ cJ) (wPk xPk cI cZ gPk qPk) E args s := ⟨_, rfl⟩
  rw [← hQ]
  obtain ⟨hx, hb, -, hown, hts, hK, hE, -⟩ := id C0
  have hl : lv_has ls 1 [(0, .ref (xPk 0))] := hl
  obtain ⟨H, hH⟩ : ∃ H, H = s.heap := ⟨_, rfl⟩
  have hP : va_P D vwCl (wPk xPk cI cZ gPk qPk) H := by rw [hH]; exact hP
  have hS : va_S A s.heap H [] := by rw [hH]; exact hS
  rw [show W p l e rm_Pk_requirePacked_t s m args below meth c s.heap = W p l e rm_Pk_requirePacked_t s m args below meth c H by rw [hH]]
  generalize ([] : List Loc) = locs at hS ⊢
  unfold f_Pk_requirePacked at h
  refine lv_aload_n hx hb d_Pk_requirePacked_0 rfl (lv_at hl 0 rfl) ?_
  refine va_get (ci := 4) (v := .int (gPk 0 4)) (C := R_Pk) (T := F_Pk) (N := 8) hx hb hts i_Pk hown hK hP 0 rfl rfl 4 (by decide) (hts _ m_110) (fun _ h9 => h9) rfl d_Pk_requirePacked_1 ?_
  refine lv_if_ne (tgt := 17) hx hb d_Pk_requirePacked_4 (by decide) (fun c_1 => ?_) (fun c_1 => ?_)
  · rw [if_neg c_1] at h
    cases h
  · rw [if_pos c_1] at h
    cases h
    rw [hQ]
    exact x_new C0 hAe hltr hno hlk hP hD hS hl.1 t_Pk_88 d_Pk_requirePacked_7 d_Pk_requirePacked_10 d_Pk_requirePacked_11 d_Pk_requirePacked_13 d_Pk_requirePacked_16 ⟨by decide, Nat.le_of_ble_eq_true rfl, by decide, by decide⟩
abbrev rm_Pk_sizeAlong_r : Room := { frames := 1, cells := 0, slots := 0, locals := 21 }
set_option maxRecDepth 100000 in
set_option maxHeartbeats 4000000 in
theorem c_Pk_sizeAlong_r (l : Launch) (D : va_G) (cI cZ cJ : ClassId) (xPk : Nat → Nat) (sz : Nat) (gPk : St) (qPk : Int64) (p1 : Int32) (r : Int32) (h : f_Pk_sizeAlong gPk qPk p1 = some (.inl r)) : MI l y_Pk_sizeAlong b_Pk_sizeAlong 2 (some .int) rm_Pk_sizeAlong_r D (TYS cI cZ cJ) [.ref (xPk 0), .int p1] (wPk xPk cI cZ gPk qPk) sz r (wPk xPk cI cZ gPk qPk) := by
  refine mi_start (own := R_Pk) (by decide +kernel) rfl (Nat.le_of_ble_eq_true rfl) (fun p e s m args below meth c A ls C0 hr hlk hP hD hS hl => ?_)
  obtain ⟨Q, hQ⟩ : ∃ Q, Q = QI below D (TYS cI cZ cJ) A (wPk xPk cI cZ gPk qPk) r args s := ⟨_, rfl⟩
  rw [← hQ]
  obtain ⟨hx, hb, -, hown, hts, hK, hE, -⟩ := id C0
  have hl : lv_has ls 2 [(0, .ref (xPk 0)), (1, .int p1)] := hl
  obtain ⟨H, hH⟩ : ∃ H, H = s.heap := ⟨_, rfl⟩
  have hP : va_P D vwCl (wPk xPk cI cZ gPk qPk) H := by rw [hH]; exact hP
  have hS : va_S A s.heap H [] := by rw [hH]; exact hS
  rw [show W p l e rm_Pk_sizeAlong_r s m args below meth c s.heap = W p l e rm_Pk_sizeAlong_r s m args below meth c H by rw [hH]]
  generalize ([] : List Loc) = locs at hS ⊢
  unfold f_Pk_sizeAlong at h
  refine lv_iload_n hx hb d_Pk_sizeAlong_0 rfl (lv_at hl 1 rfl) ?_
  refine lv_iconst (v := 3) hx hb d_Pk_sizeAlong_1 (by decide) ?_
  obtain ⟨hc_1, h⟩ | ⟨E9, hc_1, h⟩ := xc0_i h
  rotate_left
  · cases h
  refine cNv (ws' := (wPk xPk cI cZ gPk qPk)) (As := [.int p1, .int 3]) (rest := []) C0 hP hD hS hl.1 [] (c_Cc_requireIndex_r l D cI cZ cJ  H.size p1 3 hc_1) k_Cc_requireIndex (List.mem_of_getElem? (i := 7) rfl) rfl rfl rfl (rp_same rfl) ⟨by decide, by decide⟩ ⟨rfl, rfl⟩ rfl (Nat.le_of_ble_eq_true rfl) d_Pk_sizeAlong_2 ⟨Nat.zero_le _, Nat.zero_le _⟩ (fun H locs hP hD hS => ?_)
  refine lv_aload_n hx hb d_Pk_sizeAlong_5 rfl (lv_at hl 0 rfl) ?_
  obtain ⟨hc_2, h⟩ | ⟨E9, hc_2, h⟩ := xc0_i h
  rotate_left
  · cases h
  refine cVv (ws' := (wPk xPk cI cZ gPk qPk)) (As := []) (rest := []) C0 hP hD hS hl.1 [0, 1, 2, 3, 4] (c_Pk_requirePacked_r l D cI cZ cJ xPk H.size gPk qPk hc_2) k_Pk_requirePacked m_504 rfl rfl rfl rfl rfl (rp_same rfl) ⟨by decide, by decide⟩ ⟨rfl, rfl⟩ rfl (Nat.le_of_ble_eq_true rfl) d_Pk_sizeAlong_6 ⟨Nat.zero_le _, Nat.zero_le _⟩ (fun H locs hP hD hS => ?_)
  refine lv_aload_n hx hb d_Pk_sizeAlong_9 rfl (lv_at hl 0 rfl) ?_
  refine va_get (ci := 4) (v := .ref (xPk 1)) (C := R_Pk) (T := F_Pk) (N := 8) hx hb hts i_Pk hown hK hP 0 rfl rfl 0 (by decide) (hts _ m_106) (fun _ h9 => h9) rfl d_Pk_sizeAlong_10 ?_
  refine lv_iload_n hx hb d_Pk_sizeAlong_13 rfl (lv_at hl 1 rfl) ?_
  obtain ⟨hi_3, h⟩ := gb_i h
  refine va_iald hx hb hK hP 1 0 rfl rfl (inb_in hi_3) d_Pk_sizeAlong_14 ?_
  obtain ⟨x_4, ex_4, h⟩ := letb_i h
  refine lv_topn ex_4 ?_
  cases h
  rw [hQ]
  exact mi_ret C0 hr rfl hlk hP hD hS d_Pk_sizeAlong_15
abbrev rm_Pk_sizeAlong_t : Room := { frames := 7, cells := 1, slots := 6, locals := 103 }
set_option maxRecDepth 100000 in
set_option maxHeartbeats 4000000 in
theorem c_Pk_sizeAlong_t (l : Launch) (hltr : l.stackTraces = false) (D : va_G) (cI cZ cJ : ClassId) (xPk : Nat → Nat) (sz : Nat) (gPk : St) (qPk : Int64) (p1 : Int32) (E : String) (h : f_Pk_sizeAlong gPk qPk p1 = some (.inr E)) : MT l y_Pk_sizeAlong b_Pk_sizeAlong 2 (some .int) rm_Pk_sizeAlong_t D (TYS cI cZ cJ) [.ref (xPk 0), .int p1] (wPk xPk cI cZ gPk qPk) sz E := by
  refine mt_start (own := R_Pk) (by decide +kernel) rfl (Nat.le_of_ble_eq_true rfl) (fun p e s m args below meth c A ls C0 hAe hno hlk hP hD hS hl => ?_)
  obtain ⟨Q, hQ⟩ : ∃ Q, Q = QT below D (TYS cI cZ cJ) (wPk xPk cI cZ gPk qPk) E args s := ⟨_, rfl⟩
  rw [← hQ]
  obtain ⟨hx, hb, -, hown, hts, hK, hE, -⟩ := id C0
  have hl : lv_has ls 2 [(0, .ref (xPk 0)), (1, .int p1)] := hl
  obtain ⟨H, hH⟩ : ∃ H, H = s.heap := ⟨_, rfl⟩
  have hP : va_P D vwCl (wPk xPk cI cZ gPk qPk) H := by rw [hH]; exact hP
  have hS : va_S A s.heap H [] := by rw [hH]; exact hS
  rw [show W p l e rm_Pk_sizeAlong_t s m args below meth c s.heap = W p l e rm_Pk_sizeAlong_t s m args below meth c H by rw [hH]]
  generalize ([] : List Loc) = locs at hS ⊢
  unfold f_Pk_sizeAlong at h
  refine lv_iload_n hx hb d_Pk_sizeAlong_0 rfl (lv_at hl 1 rfl) ?_
  refine lv_iconst (v := 3) hx hb d_Pk_sizeAlong_1 (by decide) ?_
  obtain ⟨hc_1, h⟩ | ⟨E9, hc_1, h⟩ := xc0_i h
  rotate_left
  · cases h
    rw [hQ]
    exact x_out C0 hAe hno hlk hP hD hS [] rfl rfl rfl (rN (As := [.int p1, .int 3]) (rest := []) C0 hP hD hS hl.1 [] (c_Cc_requireIndex_t l hltr D cI cZ cJ  H.size p1 3 E hc_1) k_Cc_requireIndex (List.mem_of_getElem? (i := 7) rfl) rfl rfl ⟨by decide, by decide⟩ ⟨rfl, rfl⟩ rfl (Nat.le_of_ble_eq_true rfl) d_Pk_sizeAlong_2 ⟨by decide, by decide⟩) ⟨rfl, rfl⟩
  refine cNv (ws' := (wPk xPk cI cZ gPk qPk)) (As := [.int p1, .int 3]) (rest := []) C0 hP hD hS hl.1 [] (c_Cc_requireIndex_r l D cI cZ cJ  H.size p1 3 hc_1) k_Cc_requireIndex (List.mem_of_getElem? (i := 7) rfl) rfl rfl rfl (rp_same rfl) ⟨by decide, by decide⟩ ⟨rfl, rfl⟩ rfl (Nat.le_of_ble_eq_true rfl) d_Pk_sizeAlong_2 ⟨Nat.zero_le _, Nat.zero_le _⟩ (fun H locs hP hD hS => ?_)
  refine lv_aload_n hx hb d_Pk_sizeAlong_5 rfl (lv_at hl 0 rfl) ?_
  obtain ⟨hc_2, h⟩ | ⟨E9, hc_2, h⟩ := xc0_i h
  rotate_left
  · cases h
    rw [hQ]
    exact x_out C0 hAe hno hlk hP hD hS [0, 1, 2, 3, 4] rfl rfl rfl (rV (As := []) (rest := []) C0 hP hD hS hl.1 [0, 1, 2, 3, 4] (c_Pk_requirePacked_t l hltr D cI cZ cJ xPk H.size gPk qPk E hc_2) k_Pk_requirePacked m_504 rfl rfl rfl rfl ⟨by decide, by decide⟩ ⟨rfl, rfl⟩ rfl (Nat.le_of_ble_eq_true rfl) d_Pk_sizeAlong_6 ⟨by decide, by decide⟩) ⟨rfl, rfl⟩
  refine cVv (ws' := (wPk xPk cI cZ gPk qPk)) (As := []) (rest := []) C0 hP hD hS hl.1 [0, 1, 2, 3, 4] (c_Pk_requirePacked_r l D cI cZ cJ xPk H.size gPk qPk hc_2) k_Pk_requirePacked m_504 rfl rfl rfl rfl rfl (rp_same rfl) ⟨by decide, by decide⟩ ⟨rfl, rfl⟩ rfl (Nat.le_of_ble_eq_true rfl) d_Pk_sizeAlong_6 ⟨Nat.zero_le _, Nat.zero_le _⟩ (fun H locs hP hD hS => ?_)
  refine lv_aload_n hx hb d_Pk_sizeAlong_9 rfl (lv_at hl 0 rfl) ?_
  refine va_get (ci := 4) (v := .ref (xPk 1)) (C := R_Pk) (T := F_Pk) (N := 8) hx hb hts i_Pk hown hK hP 0 rfl rfl 0 (by decide) (hts _ m_106) (fun _ h9 => h9) rfl d_Pk_sizeAlong_10 ?_
  refine lv_iload_n hx hb d_Pk_sizeAlong_13 rfl (lv_at hl 1 rfl) ?_
  obtain ⟨hi_3, h⟩ := gb_i h
  refine va_iald hx hb hK hP 1 0 rfl rfl (inb_in hi_3) d_Pk_sizeAlong_14 ?_
  obtain ⟨x_4, ex_4, h⟩ := letb_i h
  refine lv_topn ex_4 ?_
  cases h
abbrev rm_Pk_tell_r : Room := { frames := 1, cells := 0, slots := 0, locals := 21 }
set_option maxRecDepth 100000 in
set_option maxHeartbeats 4000000 in
theorem c_Pk_tell_r (l : Launch) (D : va_G) (cI cZ cJ : ClassId) (xPk : Nat → Nat) (sz : Nat) (gPk : St) (qPk : Int64) (p1 : Int32) (p2 : Int32) (r : Int32) (h : f_Pk_tell gPk qPk p1 p2 = some (.inl r)) : MI l y_Pk_tell b_Pk_tell 3 (some .int) rm_Pk_tell_r D (TYS cI cZ cJ) [.ref (xPk 0), .int p1, .int p2] (wPk xPk cI cZ gPk qPk) sz r (wPk xPk cI cZ gPk qPk) := by
  refine mi_start (own := R_Pk) (by decide +kernel) rfl (Nat.le_of_ble_eq_true rfl) (fun p e s m args below meth c A ls C0 hr hlk hP hD hS hl => ?_)
  obtain ⟨Q, hQ⟩ : ∃ Q, Q = QI below D (TYS cI cZ cJ) A (wPk xPk cI cZ gPk qPk) r args s := ⟨_, rfl⟩
  rw [← hQ]
  obtain ⟨hx, hb, -, hown, hts, hK, hE, -⟩ := id C0
  have hl : lv_has ls 3 [(0, .ref (xPk 0)), (1, .int p1), (2, .int p2)] := hl
  obtain ⟨H, hH⟩ : ∃ H, H = s.heap := ⟨_, rfl⟩
  have hP : va_P D vwCl (wPk xPk cI cZ gPk qPk) H := by rw [hH]; exact hP
  have hS : va_S A s.heap H [] := by rw [hH]; exact hS
  rw [show W p l e rm_Pk_tell_r s m args below meth c s.heap = W p l e rm_Pk_tell_r s m args below meth c H by rw [hH]]
  generalize ([] : List Loc) = locs at hS ⊢
  unfold f_Pk_tell at h
  refine lv_iload_n hx hb d_Pk_tell_0 rfl (lv_at hl 1 rfl) ?_
  refine lv_bipush (v := 6) hx hb d_Pk_tell_1 (by decide) ?_
  obtain ⟨hc_1, h⟩ | ⟨E9, hc_1, h⟩ := xc0_i h
  rotate_left
  · cases h
  refine cNv (ws' := (wPk xPk cI cZ gPk qPk)) (As := [.int p1, .int 6]) (rest := []) C0 hP hD hS hl.1 [] (c_Cc_requireIndex_r l D cI cZ cJ  H.size p1 6 hc_1) k_Cc_requireIndex (List.mem_of_getElem? (i := 7) rfl) rfl rfl rfl (rp_same rfl) ⟨by decide, by decide⟩ ⟨rfl, rfl⟩ rfl (Nat.le_of_ble_eq_true rfl) d_Pk_tell_3 ⟨Nat.zero_le _, Nat.zero_le _⟩ (fun H locs hP hD hS => ?_)
  refine lv_iload_n hx hb d_Pk_tell_6 rfl (lv_at hl 2 rfl) ?_
  refine lv_iconst (v := (-1)) hx hb d_Pk_tell_7 (by decide) ?_
  have K25 : ∀ (H : Heap) (locs : List Loc) (ls : Array Slot), va_P D vwCl (wPk xPk cI cZ gPk qPk) H → va_D A (wPk xPk cI cZ gPk qPk) → va_S A s.heap H locs → lv_has ls 3 [(0, .ref (xPk 0)), (1, .int p1), (2, .int p2)] → f_Pk_tell_J25 gPk qPk p1 p2 = some (.inl r) → W p l e rm_Pk_tell_r s m args below meth c H locs 0 0 Q (F0 m 25 ls []) := by
    intro  H locs ls hP hD hS hl h
    unfold f_Pk_tell_J25 at h
    refine lv_aload_n hx hb d_Pk_tell_25 rfl (lv_at hl 0 rfl) ?_
    obtain ⟨hc_2, h⟩ | ⟨E9, hc_2, h⟩ := xc0_i h
    rotate_left
    · cases h
    refine cVv (ws' := (wPk xPk cI cZ gPk qPk)) (As := []) (rest := []) C0 hP hD hS hl.1 [0, 1, 2, 3, 4] (c_Pk_requirePacked_r l D cI cZ cJ xPk H.size gPk qPk hc_2) k_Pk_requirePacked m_504 rfl rfl rfl rfl rfl (rp_same rfl) ⟨by decide, by decide⟩ ⟨rfl, rfl⟩ rfl (Nat.le_of_ble_eq_true rfl) d_Pk_tell_26 ⟨Nat.zero_le _, Nat.zero_le _⟩ (fun H locs hP hD hS => ?_)
    refine lv_iload_n hx hb d_Pk_tell_29 rfl (lv_at hl 2 rfl) ?_
    refine lv_iconst (v := (-1)) hx hb d_Pk_tell_30 (by decide) ?_
    refine lv_icmp_ne (tgt := 43) hx hb d_Pk_tell_31 (by decide) (fun c_3 => ?_) (fun c_3 => ?_)
    · rw [if_neg c_3] at h
      refine lv_aload_n hx hb d_Pk_tell_43 rfl (lv_at hl 0 rfl) ?_
      refine va_get (ci := 4) (v := .ref (xPk 3)) (C := R_Pk) (T := F_Pk) (N := 8) hx hb hts i_Pk hown hK hP 0 rfl rfl 2 (by decide) (hts _ m_108) (fun _ h9 => h9) rfl d_Pk_tell_44 ?_
      refine lv_iload_n hx hb d_Pk_tell_47 rfl (lv_at hl 1 rfl) ?_
      obtain ⟨hi_4, h⟩ := gb_i h
      refine va_iald hx hb hK hP 3 0 rfl rfl (inb_in hi_4) d_Pk_tell_48 ?_
      obtain ⟨x_5, ex_5, h⟩ := letb_i h
      refine lv_topn ex_5 ?_
      cases h
      rw [hQ]
      exact mi_ret C0 hr rfl hlk hP hD hS d_Pk_tell_49
    · rw [if_pos c_3] at h
      refine lv_aload_n hx hb d_Pk_tell_34 rfl (lv_at hl 0 rfl) ?_
      refine va_get (ci := 4) (v := .ref (xPk 2)) (C := R_Pk) (T := F_Pk) (N := 8) hx hb hts i_Pk hown hK hP 0 rfl rfl 1 (by decide) (hts _ m_107) (fun _ h9 => h9) rfl d_Pk_tell_35 ?_
      refine lv_iload_n hx hb d_Pk_tell_38 rfl (lv_at hl 1 rfl) ?_
      obtain ⟨hi_6, h⟩ := gb_i h
      refine va_iald hx hb hK hP 2 0 rfl rfl (inb_in hi_6) d_Pk_tell_39 ?_
      obtain ⟨x_7, ex_7, h⟩ := letb_i h
      refine lv_topn ex_7 ?_
      refine lv_goto (tgt := 49) hx hb d_Pk_tell_40 (by decide) ?_
      cases h
      rw [hQ]
      exact mi_ret C0 hr rfl hlk hP hD hS d_Pk_tell_49
  refine lv_icmp_eq (tgt := 25) hx hb d_Pk_tell_8 (by decide) (fun c_8 => ?_) (fun c_8 => ?_)
  · rw [if_pos c_8] at h
    exact K25  H locs ls hP hD hS (lv_sub hl [0, 1, 2] rfl) h
  · rw [if_neg c_8] at h
    refine lv_iload_n hx hb d_Pk_tell_11 rfl (lv_at hl 2 rfl) ?_
    refine lv_if_eq (tgt := 25) hx hb d_Pk_tell_12 (by decide) (fun c_9 => ?_) (fun c_9 => ?_)
    · rw [if_pos c_9] at h
      exact K25  H locs ls hP hD hS (lv_sub hl [0, 1, 2] rfl) h
    · rw [if_neg c_9] at h
      cases h
abbrev rm_Pk_tell_t : Room := { frames := 7, cells := 1, slots := 6, locals := 103 }
set_option maxRecDepth 100000 in
set_option maxHeartbeats 4000000 in
theorem c_Pk_tell_t (l : Launch) (hltr : l.stackTraces = false) (D : va_G) (cI cZ cJ : ClassId) (xPk : Nat → Nat) (sz : Nat) (gPk : St) (qPk : Int64) (p1 : Int32) (p2 : Int32) (E : String) (h : f_Pk_tell gPk qPk p1 p2 = some (.inr E)) : MT l y_Pk_tell b_Pk_tell 3 (some .int) rm_Pk_tell_t D (TYS cI cZ cJ) [.ref (xPk 0), .int p1, .int p2] (wPk xPk cI cZ gPk qPk) sz E := by
  refine mt_start (own := R_Pk) (by decide +kernel) rfl (Nat.le_of_ble_eq_true rfl) (fun p e s m args below meth c A ls C0 hAe hno hlk hP hD hS hl => ?_)
  obtain ⟨Q, hQ⟩ : ∃ Q, Q = QT below D (TYS cI cZ cJ) (wPk xPk cI cZ gPk qPk) E args s := ⟨_, rfl⟩
  rw [← hQ]
  obtain ⟨hx, hb, -, hown, hts, hK, hE, -⟩ := id C0
  have hl : lv_has ls 3 [(0, .ref (xPk 0)), (1, .int p1), (2, .int p2)] := hl
  obtain ⟨H, hH⟩ : ∃ H, H = s.heap := ⟨_, rfl⟩
  have hP : va_P D vwCl (wPk xPk cI cZ gPk qPk) H := by rw [hH]; exact hP
  have hS : va_S A s.heap H [] := by rw [hH]; exact hS
  rw [show W p l e rm_Pk_tell_t s m args below meth c s.heap = W p l e rm_Pk_tell_t s m args below meth c H by rw [hH]]
  generalize ([] : List Loc) = locs at hS ⊢
  unfold f_Pk_tell at h
  refine lv_iload_n hx hb d_Pk_tell_0 rfl (lv_at hl 1 rfl) ?_
  refine lv_bipush (v := 6) hx hb d_Pk_tell_1 (by decide) ?_
  obtain ⟨hc_1, h⟩ | ⟨E9, hc_1, h⟩ := xc0_i h
  rotate_left
  · cases h
    rw [hQ]
    exact x_out C0 hAe hno hlk hP hD hS [] rfl rfl rfl (rN (As := [.int p1, .int 6]) (rest := []) C0 hP hD hS hl.1 [] (c_Cc_requireIndex_t l hltr D cI cZ cJ  H.size p1 6 E hc_1) k_Cc_requireIndex (List.mem_of_getElem? (i := 7) rfl) rfl rfl ⟨by decide, by decide⟩ ⟨rfl, rfl⟩ rfl (Nat.le_of_ble_eq_true rfl) d_Pk_tell_3 ⟨by decide, by decide⟩) ⟨rfl, rfl⟩
  refine cNv (ws' := (wPk xPk cI cZ gPk qPk)) (As := [.int p1, .int 6]) (rest := []) C0 hP hD hS hl.1 [] (c_Cc_requireIndex_r l D cI cZ cJ  H.size p1 6 hc_1) k_Cc_requireIndex (List.mem_of_getElem? (i := 7) rfl) rfl rfl rfl (rp_same rfl) ⟨by decide, by decide⟩ ⟨rfl, rfl⟩ rfl (Nat.le_of_ble_eq_true rfl) d_Pk_tell_3 ⟨Nat.zero_le _, Nat.zero_le _⟩ (fun H locs hP hD hS => ?_)
  refine lv_iload_n hx hb d_Pk_tell_6 rfl (lv_at hl 2 rfl) ?_
  refine lv_iconst (v := (-1)) hx hb d_Pk_tell_7 (by decide) ?_
  have K25 : ∀ (H : Heap) (locs : List Loc) (ls : Array Slot), va_P D vwCl (wPk xPk cI cZ gPk qPk) H → va_D A (wPk xPk cI cZ gPk qPk) → va_S A s.heap H locs → lv_has ls 3 [(0, .ref (xPk 0)), (1, .int p1), (2, .int p2)] → f_Pk_tell_J25 gPk qPk p1 p2 = some (.inr E) → W p l e rm_Pk_tell_t s m args below meth c H locs 0 0 Q (F0 m 25 ls []) := by
    intro  H locs ls hP hD hS hl h
    unfold f_Pk_tell_J25 at h
    refine lv_aload_n hx hb d_Pk_tell_25 rfl (lv_at hl 0 rfl) ?_
    obtain ⟨hc_2, h⟩ | ⟨E9, hc_2, h⟩ := xc0_i h
    rotate_left
    · cases h
      rw [hQ]
      exact x_out C0 hAe hno hlk hP hD hS [0, 1, 2, 3, 4] rfl rfl rfl (rV (As := []) (rest := []) C0 hP hD hS hl.1 [0, 1, 2, 3, 4] (c_Pk_requirePacked_t l hltr D cI cZ cJ xPk H.size gPk qPk E hc_2) k_Pk_requirePacked m_504 rfl rfl rfl rfl ⟨by decide, by decide⟩ ⟨rfl, rfl⟩ rfl (Nat.le_of_ble_eq_true rfl) d_Pk_tell_26 ⟨by decide, by decide⟩) ⟨rfl, rfl⟩
    refine cVv (ws' := (wPk xPk cI cZ gPk qPk)) (As := []) (rest := []) C0 hP hD hS hl.1 [0, 1, 2, 3, 4] (c_Pk_requirePacked_r l D cI cZ cJ xPk H.size gPk qPk hc_2) k_Pk_requirePacked m_504 rfl rfl rfl rfl rfl (rp_same rfl) ⟨by decide, by decide⟩ ⟨rfl, rfl⟩ rfl (Nat.le_of_ble_eq_true rfl) d_Pk_tell_26 ⟨Nat.zero_le _, Nat.zero_le _⟩ (fun H locs hP hD hS => ?_)
    refine lv_iload_n hx hb d_Pk_tell_29 rfl (lv_at hl 2 rfl) ?_
    refine lv_iconst (v := (-1)) hx hb d_Pk_tell_30 (by decide) ?_
    refine lv_icmp_ne (tgt := 43) hx hb d_Pk_tell_31 (by decide) (fun c_3 => ?_) (fun c_3 => ?_)
    · rw [if_neg c_3] at h
      refine lv_aload_n hx hb d_Pk_tell_43 rfl (lv_at hl 0 rfl) ?_
      refine va_get (ci := 4) (v := .ref (xPk 3)) (C := R_Pk) (T := F_Pk) (N := 8) hx hb hts i_Pk hown hK hP 0 rfl rfl 2 (by decide) (hts _ m_108) (fun _ h9 => h9) rfl d_Pk_tell_44 ?_
      refine lv_iload_n hx hb d_Pk_tell_47 rfl (lv_at hl 1 rfl) ?_
      obtain ⟨hi_4, h⟩ := gb_i h
      refine va_iald hx hb hK hP 3 0 rfl rfl (inb_in hi_4) d_Pk_tell_48 ?_
      obtain ⟨x_5, ex_5, h⟩ := letb_i h
      refine lv_topn ex_5 ?_
      cases h
    · rw [if_pos c_3] at h
      refine lv_aload_n hx hb d_Pk_tell_34 rfl (lv_at hl 0 rfl) ?_
      refine va_get (ci := 4) (v := .ref (xPk 2)) (C := R_Pk) (T := F_Pk) (N := 8) hx hb hts i_Pk hown hK hP 0 rfl rfl 1 (by decide) (hts _ m_107) (fun _ h9 => h9) rfl d_Pk_tell_35 ?_
      refine lv_iload_n hx hb d_Pk_tell_38 rfl (lv_at hl 1 rfl) ?_
      obtain ⟨hi_6, h⟩ := gb_i h
      refine va_iald hx hb hK hP 2 0 rfl rfl (inb_in hi_6) d_Pk_tell_39 ?_
      obtain ⟨x_7, ex_7, h⟩ := letb_i h
      refine lv_topn ex_7 ?_
      refine lv_goto (tgt := 49) hx hb d_Pk_tell_40 (by decide) ?_
      cases h
  refine lv_icmp_eq (tgt := 25) hx hb d_Pk_tell_8 (by decide) (fun c_8 => ?_) (fun c_8 => ?_)
  · rw [if_pos c_8] at h
    exact K25  H locs ls hP hD hS (lv_sub hl [0, 1, 2] rfl) h
  · rw [if_neg c_8] at h
    refine lv_iload_n hx hb d_Pk_tell_11 rfl (lv_at hl 2 rfl) ?_
    refine lv_if_eq (tgt := 25) hx hb d_Pk_tell_12 (by decide) (fun c_9 => ?_) (fun c_9 => ?_)
    · rw [if_pos c_9] at h
      exact K25  H locs ls hP hD hS (lv_sub hl [0, 1, 2] rfl) h
    · rw [if_neg c_9] at h
      cases h
      rw [hQ]
      exact x_new C0 hAe hltr hno hlk hP hD hS hl.1 t_Pk_84 d_Pk_tell_15 d_Pk_tell_18 d_Pk_tell_19 d_Pk_tell_21 d_Pk_tell_24 ⟨by decide, Nat.le_of_ble_eq_true rfl, by decide, by decide⟩
