abbrev rm_Mo_size_r : Room := { frames := 1, cells := 0, slots := 0, locals := 23 }
set_option maxRecDepth 100000 in
set_option maxHeartbeats 4000000 in
theorem c_Mo_size_r (l : Launch) (D : va_G) (cI cZ cJ : ClassId) (xMo : Nat → Nat) (sz : Nat) (gMo : St) (p1 : Int32) (r : Int32) (gMo1 : St) (h : f_Mo_size gMo p1 = some (r, gMo1)) : MI l y_Mo_size b_Mo_size 2 (some .int) rm_Mo_size_r D (TYS cI cZ cJ) [.ref (xMo 0), .int p1] (wMo xMo cI cZ gMo) sz r (wMo xMo cI cZ gMo1) := by
  refine mi_start (own := R_Mo) (by decide +kernel) rfl (Nat.le_of_ble_eq_true rfl) (fun p e s m args below meth c A ls C0 hr hlk hP hD hS hl => ?_)
  obtain ⟨Q, hQ⟩ : ∃ Q, Q = QI below D (TYS cI cZ cJ) A (wMo xMo cI cZ gMo1) r args s := ⟨_, rfl⟩
  rw [← hQ]
  obtain ⟨hx, hb, -, hown, hts, hK, hE, -⟩ := id C0
  have hl : lv_has ls 2 [(0, .ref (xMo 0)), (1, .int p1)] := hl
  obtain ⟨H, hH⟩ : ∃ H, H = s.heap := ⟨_, rfl⟩
  have hP : va_P D vwCl (wMo xMo cI cZ gMo) H := by rw [hH]; exact hP
  have hS : va_S A s.heap H [] := by rw [hH]; exact hS
  rw [show W p l e rm_Mo_size_r s m args below meth c s.heap = W p l e rm_Mo_size_r s m args below meth c H by rw [hH]]
  generalize ([] : List Loc) = locs at hS ⊢
  unfold f_Mo_size at h
  refine lv_aload_n hx hb d_Mo_size_0 rfl (lv_at hl 0 rfl) ?_
  refine lv_iload_n hx hb d_Mo_size_1 rfl (lv_at hl 1 rfl) ?_
  refine lv_iconst (v := 0) hx hb d_Mo_size_2 (by decide) ?_
  refine lv_iconst (v := 2) hx hb d_Mo_size_3 (by decide) ?_
  obtain ⟨r_1, hc_2, h⟩ := xv1_i h
  refine cSi (ws' := (wMo xMo cI cZ gMo)) (As := [.int p1, .int 0, .int 2]) (rest := [.ref (xMo 0)]) C0 hP hD hS hl.1 [] (c_Mo_within_r l D cI cZ cJ  H.size p1 0 2 r_1 hc_2) k_Mo_within m_806 rfl rfl rfl (rp_same rfl) ⟨by decide, by decide⟩ ⟨rfl, rfl⟩ rfl (Nat.le_of_ble_eq_true rfl) d_Mo_size_4 ⟨Nat.zero_le _, Nat.zero_le _⟩ (fun H locs hP hD hS => ?_)
  refine lv_aload_n hx hb d_Mo_size_7 rfl (lv_at hl 0 rfl) ?_
  refine va_get (ci := 8) (v := .int (gMo 0 10)) (C := R_Mo) (T := F_Mo) (N := 31) hx hb hts i_Mo hown hK hP 0 rfl rfl 10 (by decide) (hts _ m_714) (fun _ h9 => h9) rfl d_Mo_size_8 ?_
  refine lv_iconst (v := 1) hx hb d_Mo_size_11 (by decide) ?_
  obtain ⟨r_3, gMo_4, hc_5, h⟩ := xv2_i h
  refine cVi (ws' := (wMo xMo cI cZ gMo_4)) (As := [.int r_1, .int (gMo 0 10), .int 1]) (rest := []) C0 hP hD hS hl.1 [0, 1, 2, 3, 4, 5, 6, 7, 8, 9, 10, 11, 12, 13, 14, 15] (c_Mo_goes_r l D cI cZ cJ xMo H.size gMo r_1 (gMo 0 10) 1 r_3 gMo_4 hc_5) k_Mo_goes m_810 rfl rfl rfl rfl rfl (rp_all rfl rfl) ⟨by decide, by decide⟩ ⟨rfl, rfl⟩ rfl (Nat.le_of_ble_eq_true rfl) d_Mo_size_12 ⟨Nat.zero_le _, Nat.zero_le _⟩ (fun H locs hP hD hS => ?_)
  refine lv_if_ne (tgt := 20) hx hb d_Mo_size_15 (by decide) (fun c_6 => ?_) (fun c_6 => ?_)
  · rw [if_neg c_6] at h
    refine lv_iload_n hx hb d_Mo_size_20 rfl (lv_at hl 1 rfl) ?_
    refine lv_if_ne (tgt := 31) hx hb d_Mo_size_21 (by decide) (fun c_7 => ?_) (fun c_7 => ?_)
    · rw [if_neg c_7] at h
      refine lv_iload_n hx hb d_Mo_size_31 rfl (lv_at hl 1 rfl) ?_
      refine lv_iconst (v := 1) hx hb d_Mo_size_32 (by decide) ?_
      refine lv_icmp_ne (tgt := 43) hx hb d_Mo_size_33 (by decide) (fun c_8 => ?_) (fun c_8 => ?_)
      · rw [if_neg c_8] at h
        refine lv_aload_n hx hb d_Mo_size_43 rfl (lv_at hl 0 rfl) ?_
        refine va_get (ci := 8) (v := .int (gMo_4 0 16)) (C := R_Mo) (T := F_Mo) (N := 31) hx hb hts i_Mo hown hK hP 0 rfl rfl 16 (by decide) (hts _ m_720) (fun _ h9 => h9) rfl d_Mo_size_44 ?_
        cases h
        rw [hQ]
        exact mi_ret C0 hr rfl hlk hP hD hS d_Mo_size_47
      · rw [if_pos c_8] at h
        refine lv_aload_n hx hb d_Mo_size_36 rfl (lv_at hl 0 rfl) ?_
        refine va_get (ci := 8) (v := .int (gMo_4 0 15)) (C := R_Mo) (T := F_Mo) (N := 31) hx hb hts i_Mo hown hK hP 0 rfl rfl 15 (by decide) (hts _ m_719) (fun _ h9 => h9) rfl d_Mo_size_37 ?_
        refine lv_goto (tgt := 47) hx hb d_Mo_size_40 (by decide) ?_
        cases h
        rw [hQ]
        exact mi_ret C0 hr rfl hlk hP hD hS d_Mo_size_47
    · rw [if_pos c_7] at h
      refine lv_aload_n hx hb d_Mo_size_24 rfl (lv_at hl 0 rfl) ?_
      refine va_get (ci := 8) (v := .int (gMo_4 0 14)) (C := R_Mo) (T := F_Mo) (N := 31) hx hb hts i_Mo hown hK hP 0 rfl rfl 14 (by decide) (hts _ m_718) (fun _ h9 => h9) rfl d_Mo_size_25 ?_
      refine lv_goto (tgt := 47) hx hb d_Mo_size_28 (by decide) ?_
      cases h
      rw [hQ]
      exact mi_ret C0 hr rfl hlk hP hD hS d_Mo_size_47
  · rw [if_pos c_6] at h
    refine lv_iconst (v := 0) hx hb d_Mo_size_18 (by decide) ?_
    cases h
    rw [hQ]
    exact mi_ret C0 hr rfl hlk hP hD hS d_Mo_size_19
abbrev rm_Mo_at_r : Room := { frames := 1, cells := 0, slots := 0, locals := 25 }
set_option maxRecDepth 100000 in
set_option maxHeartbeats 4000000 in
theorem c_Mo_at_r (l : Launch) (D : va_G) (cI cZ cJ : ClassId) (xMo : Nat → Nat) (sz : Nat) (gMo : St) (p1 : Int32) (p2 : Int32) (r : Int32) (gMo1 : St) (h : f_Mo_at gMo p1 p2 = some (r, gMo1)) : MI l y_Mo_at b_Mo_at 5 (some .int) rm_Mo_at_r D (TYS cI cZ cJ) [.ref (xMo 0), .int p1, .int p2] (wMo xMo cI cZ gMo) sz r (wMo xMo cI cZ gMo1) := by
  refine mi_start (own := R_Mo) (by decide +kernel) rfl (Nat.le_of_ble_eq_true rfl) (fun p e s m args below meth c A ls C0 hr hlk hP hD hS hl => ?_)
  obtain ⟨Q, hQ⟩ : ∃ Q, Q = QI below D (TYS cI cZ cJ) A (wMo xMo cI cZ gMo1) r args s := ⟨_, rfl⟩
  rw [← hQ]
  obtain ⟨hx, hb, -, hown, hts, hK, hE, -⟩ := id C0
  have hl : lv_has ls 5 [(0, .ref (xMo 0)), (1, .int p1), (2, .int p2)] := hl
  obtain ⟨H, hH⟩ : ∃ H, H = s.heap := ⟨_, rfl⟩
  have hP : va_P D vwCl (wMo xMo cI cZ gMo) H := by rw [hH]; exact hP
  have hS : va_S A s.heap H [] := by rw [hH]; exact hS
  rw [show W p l e rm_Mo_at_r s m args below meth c s.heap = W p l e rm_Mo_at_r s m args below meth c H by rw [hH]]
  generalize ([] : List Loc) = locs at hS ⊢
  unfold f_Mo_at at h
  refine lv_aload_n hx hb d_Mo_at_0 rfl (lv_at hl 0 rfl) ?_
  refine lv_aload_n hx hb d_Mo_at_1 rfl (lv_at hl 0 rfl) ?_
  refine lv_iload_n hx hb d_Mo_at_2 rfl (lv_at hl 1 rfl) ?_
  obtain ⟨r_1, hc_2, h⟩ := xv1_i h
  refine cVi (ws' := (wMo xMo cI cZ gMo)) (As := [.int p1]) (rest := [.ref (xMo 0)]) C0 hP hD hS hl.1 [0, 1, 2, 3, 4, 5, 6, 7, 8, 9, 10, 11, 12, 13, 14, 15] (c_Mo_isObject_r l D cI cZ cJ xMo H.size gMo p1 r_1 hc_2) k_Mo_isObject m_818 rfl rfl rfl rfl rfl (rp_same rfl) ⟨by decide, by decide⟩ ⟨rfl, rfl⟩ rfl (Nat.le_of_ble_eq_true rfl) d_Mo_at_3 ⟨Nat.zero_le _, Nat.zero_le _⟩ (fun H locs hP hD hS => ?_)
  have K23 : ∀ (s1_23 : Int32) (H : Heap) (locs : List Loc) (ls : Array Slot), va_P D vwCl (wMo xMo cI cZ gMo) H → va_D A (wMo xMo cI cZ gMo) → va_S A s.heap H locs → lv_has ls 5 [(0, .ref (xMo 0)), (1, .int p1), (2, .int p2)] → f_Mo_at_J23 gMo p1 p2 s1_23 = some (r, gMo1) → W p l e rm_Mo_at_r s m args below meth c H locs 0 0 Q (F0 m 23 ls [.int s1_23, .ref (xMo 0)]) := by
    intro s1_23 H locs ls hP hD hS hl h
    unfold f_Mo_at_J23 at h
    refine lv_aload_n hx hb d_Mo_at_23 rfl (lv_at hl 0 rfl) ?_
    refine va_get (ci := 8) (v := .int (gMo 0 10)) (C := R_Mo) (T := F_Mo) (N := 31) hx hb hts i_Mo hown hK hP 0 rfl rfl 10 (by decide) (hts _ m_714) (fun _ h9 => h9) rfl d_Mo_at_24 ?_
    refine lv_iconst (v := 1) hx hb d_Mo_at_27 (by decide) ?_
    obtain ⟨r_3, gMo_4, hc_5, h⟩ := xv2_i h
    refine cVi (ws' := (wMo xMo cI cZ gMo_4)) (As := [.int s1_23, .int (gMo 0 10), .int 1]) (rest := []) C0 hP hD hS hl.1 [0, 1, 2, 3, 4, 5, 6, 7, 8, 9, 10, 11, 12, 13, 14, 15] (c_Mo_goes_r l D cI cZ cJ xMo H.size gMo s1_23 (gMo 0 10) 1 r_3 gMo_4 hc_5) k_Mo_goes m_810 rfl rfl rfl rfl rfl (rp_all rfl rfl) ⟨by decide, by decide⟩ ⟨rfl, rfl⟩ rfl (Nat.le_of_ble_eq_true rfl) d_Mo_at_28 ⟨Nat.zero_le _, Nat.zero_le _⟩ (fun H locs hP hD hS => ?_)
    refine lv_if_ne (tgt := 36) hx hb d_Mo_at_31 (by decide) (fun c_6 => ?_) (fun c_6 => ?_)
    · rw [if_neg c_6] at h
      refine lv_aload_n hx hb d_Mo_at_36 rfl (lv_at hl 0 rfl) ?_
      refine va_get (ci := 8) (v := .int (gMo_4 0 13)) (C := R_Mo) (T := F_Mo) (N := 31) hx hb hts i_Mo hown hK hP 0 rfl rfl 13 (by decide) (hts _ m_717) (fun _ h9 => h9) rfl d_Mo_at_37 ?_
      obtain ⟨x_7, ex_7, h⟩ := letb_i h
      refine lv_topn ex_7 ?_
      refine lv_istore_n (lv' := [(3, .int x_7), (0, .ref (xMo 0)), (1, .int p1), (2, .int p2)]) hx hb d_Mo_at_40 rfl hl (by decide) rfl (fun ls hl => ?_)
      refine lv_iconst (v := 0) hx hb d_Mo_at_41 (by decide) ?_
      refine lv_istore (lv' := [(4, .int 0), (3, .int x_7), (0, .ref (xMo 0)), (1, .int p1), (2, .int p2)]) hx hb d_Mo_at_42 hl (by decide) rfl (fun ls hl => ?_)
      have K93 : ∀ (v3_93 : Int32) (v4_93 : Int32) (gMo_93 : St) (H : Heap) (locs : List Loc) (ls : Array Slot), va_P D vwCl (wMo xMo cI cZ gMo_93) H → va_D A (wMo xMo cI cZ gMo_93) → va_S A s.heap H locs → lv_has ls 5 [(0, .ref (xMo 0)), (1, .int p1), (2, .int p2), (3, .int v3_93), (4, .int v4_93)] → f_Mo_at_X93 p1 p2 v3_93 v4_93 gMo_93 = some (r, gMo1) → W p l e rm_Mo_at_r s m args below meth c H locs 0 0 Q (F0 m 93 ls []) := by
        intro v3_93 v4_93 gMo_93 H locs ls hP hD hS hl h
        unfold f_Mo_at_X93 at h
        refine lv_iload_n hx hb d_Mo_at_93 rfl (lv_at hl 2 rfl) ?_
        refine lv_iconst (v := (-1)) hx hb d_Mo_at_94 (by decide) ?_
        have K108 : ∀ (v3_108 : Int32) (v4_108 : Int32) (gMo_108 : St) (H : Heap) (locs : List Loc) (ls : Array Slot), va_P D vwCl (wMo xMo cI cZ gMo_108) H → va_D A (wMo xMo cI cZ gMo_108) → va_S A s.heap H locs → lv_has ls 5 [(0, .ref (xMo 0)), (1, .int p1), (2, .int p2), (3, .int v3_108), (4, .int v4_108)] → f_Mo_at_J108 p1 v3_108 v4_108 gMo_108 = some (r, gMo1) → W p l e rm_Mo_at_r s m args below meth c H locs 0 0 Q (F0 m 108 ls []) := by
          intro v3_108 v4_108 gMo_108 H locs ls hP hD hS hl h
          unfold f_Mo_at_J108 at h
          refine lv_aload_n hx hb d_Mo_at_108 rfl (lv_at hl 0 rfl) ?_
          refine va_get (ci := 8) (v := .ref (xMo 9)) (C := R_Mo) (T := F_Mo) (N := 31) hx hb hts i_Mo hown hK hP 0 rfl rfl 11 (by decide) (hts _ m_715) (fun _ h9 => h9) rfl d_Mo_at_109 ?_
          refine lv_iload_n hx hb d_Mo_at_112 rfl (lv_at hl 1 rfl) ?_
          obtain ⟨hi_8, h⟩ := gb_i h
          refine va_iald hx hb hK hP 9 0 rfl rfl (inb_in hi_8) d_Mo_at_113 ?_
          obtain ⟨x_9, ex_9, h⟩ := letb_i h
          refine lv_topn ex_9 ?_
          refine lv_goto (tgt := 118) hx hb d_Mo_at_114 (by decide) ?_
          cases h
          rw [hQ]
          exact mi_ret C0 hr rfl hlk hP hD hS d_Mo_at_118
        refine lv_icmp_eq (tgt := 108) hx hb d_Mo_at_95 (by decide) (fun c_10 => ?_) (fun c_10 => ?_)
        · rw [if_pos c_10] at h
          exact K108 v3_93 v4_93 gMo_93 H locs ls hP hD hS (lv_sub hl [0, 1, 2, 3, 4] rfl) h
        · rw [if_neg c_10] at h
          refine lv_aload_n hx hb d_Mo_at_98 rfl (lv_at hl 0 rfl) ?_
          refine va_get (ci := 8) (v := .ref (xMo 9)) (C := R_Mo) (T := F_Mo) (N := 31) hx hb hts i_Mo hown hK hP 0 rfl rfl 11 (by decide) (hts _ m_715) (fun _ h9 => h9) rfl d_Mo_at_99 ?_
          refine lv_iload_n hx hb d_Mo_at_102 rfl (lv_at hl 1 rfl) ?_
          obtain ⟨hi_11, h⟩ := gb_i h
          refine va_iald hx hb hK hP 9 0 rfl rfl (inb_in hi_11) d_Mo_at_103 ?_
          obtain ⟨x_12, ex_12, h⟩ := letb_i h
          refine lv_topn ex_12 ?_
          refine lv_iconst (v := (-1)) hx hb d_Mo_at_104 (by decide) ?_
          refine lv_icmp_ne (tgt := 117) hx hb d_Mo_at_105 (by decide) (fun c_13 => ?_) (fun c_13 => ?_)
          · rw [if_neg c_13] at h
            refine lv_iload_n hx hb d_Mo_at_117 rfl (lv_at hl 3 rfl) ?_
            cases h
            rw [hQ]
            exact mi_ret C0 hr rfl hlk hP hD hS d_Mo_at_118
          · rw [if_pos c_13] at h
            exact K108 v3_93 v4_93 gMo_93 H locs ls hP hD hS (lv_sub hl [0, 1, 2, 3, 4] rfl) h
      have K44 : ∀ (n : Nat) (v3_44 : Int32) (v4_44 : Int32) (gMo_44 : St) (H : Heap) (locs : List Loc) (ls : Array Slot), va_P D vwCl (wMo xMo cI cZ gMo_44) H → va_D A (wMo xMo cI cZ gMo_44) → va_S A s.heap H locs → lv_has ls 5 [(0, .ref (xMo 0)), (1, .int p1), (2, .int p2), (3, .int v3_44), (4, .int v4_44)] → it3 (f_Mo_at_L44 p1 p2) n v3_44 v4_44 gMo_44 = some (r, gMo1) → W p l e rm_Mo_at_r s m args below meth c H locs 0 0 Q (F0 m 44 ls []) := by
        intro n
        induction n with
        | zero => intro v3_44 v4_44 gMo_44 H locs ls hP hD hS hl h; exact (it3_0 h).elim
        | succ n ih =>
          intro v3_44 v4_44 gMo_44 H locs ls hP hD hS hl h
          rw [it3_s, f_Mo_at_L44] at h
          generalize it3 (f_Mo_at_L44 p1 p2) n = kc_44 at h ih
          refine lv_iload hx hb d_Mo_at_44 (lv_at hl 4 rfl) ?_
          refine lv_iload_n hx hb d_Mo_at_46 rfl (lv_at hl 1 rfl) ?_
          refine lv_icmp_ge (tgt := 93) hx hb d_Mo_at_47 (by decide) (fun c_14 => ?_) (fun c_14 => ?_)
          · rw [if_pos c_14] at h
            exact K93 v3_44 v4_44 gMo_44 H locs ls hP hD hS (lv_sub hl [0, 1, 2, 3, 4] rfl) h
          · rw [if_neg c_14] at h
            refine lv_aload_n hx hb d_Mo_at_50 rfl (lv_at hl 0 rfl) ?_
            refine va_get (ci := 8) (v := .ref (xMo 9)) (C := R_Mo) (T := F_Mo) (N := 31) hx hb hts i_Mo hown hK hP 0 rfl rfl 11 (by decide) (hts _ m_715) (fun _ h9 => h9) rfl d_Mo_at_51 ?_
            refine lv_iload hx hb d_Mo_at_54 (lv_at hl 4 rfl) ?_
            obtain ⟨hi_15, h⟩ := gb_i h
            refine va_iald hx hb hK hP 9 0 rfl rfl (inb_in hi_15) d_Mo_at_56 ?_
            obtain ⟨x_16, ex_16, h⟩ := letb_i h
            refine lv_topn ex_16 ?_
            refine lv_iconst (v := (-1)) hx hb d_Mo_at_57 (by decide) ?_
            have K86 : ∀ (s0_86 : Int32) (v3_86 : Int32) (v4_86 : Int32) (gMo_86 : St) (H : Heap) (locs : List Loc) (ls : Array Slot), va_P D vwCl (wMo xMo cI cZ gMo_86) H → va_D A (wMo xMo cI cZ gMo_86) → va_S A s.heap H locs → lv_has ls 5 [(0, .ref (xMo 0)), (1, .int p1), (2, .int p2), (3, .int v3_86), (4, .int v4_86)] → f_Mo_at_J86 kc_44 s0_86 v3_86 v4_86 gMo_86 = some (r, gMo1) → W p l e rm_Mo_at_r s m args below meth c H locs 0 0 Q (F0 m 86 ls [.int s0_86]) := by
              intro s0_86 v3_86 v4_86 gMo_86 H locs ls hP hD hS hl h
              unfold f_Mo_at_J86 at h
              refine lv_istore_n (lv' := [(3, .int s0_86), (0, .ref (xMo 0)), (1, .int p1), (2, .int p2), (4, .int v4_86)]) hx hb d_Mo_at_86 rfl hl (by decide) rfl (fun ls hl => ?_)
              obtain ⟨x_17, ex_17, h⟩ := letb_i h
              refine lv_iinc (v := x_17) (lv' := [(4, .int x_17), (3, .int s0_86), (0, .ref (xMo 0)), (1, .int p1), (2, .int p2)]) hx hb d_Mo_at_87 hl (k := 4) rfl (by rw [ex_17]; rfl) (by decide) rfl (fun ls hl => ?_)
              refine lv_goto (tgt := 44) hx hb d_Mo_at_90 (by decide) ?_
              exact ih s0_86 x_17 gMo_86 H locs ls hP hD hS (lv_sub hl [2, 3, 4, 1, 0] rfl) h
            refine lv_icmp_ne (tgt := 65) hx hb d_Mo_at_58 (by decide) (fun c_18 => ?_) (fun c_18 => ?_)
            · rw [if_neg c_18] at h
              refine lv_iload_n hx hb d_Mo_at_65 rfl (lv_at hl 3 rfl) ?_
              refine lv_aload_n hx hb d_Mo_at_66 rfl (lv_at hl 0 rfl) ?_
              refine lv_iload hx hb d_Mo_at_67 (lv_at hl 4 rfl) ?_
              refine lv_aload_n hx hb d_Mo_at_69 rfl (lv_at hl 0 rfl) ?_
              refine va_get (ci := 8) (v := .ref (xMo 9)) (C := R_Mo) (T := F_Mo) (N := 31) hx hb hts i_Mo hown hK hP 0 rfl rfl 11 (by decide) (hts _ m_715) (fun _ h9 => h9) rfl d_Mo_at_70 ?_
              refine lv_iload hx hb d_Mo_at_73 (lv_at hl 4 rfl) ?_
              obtain ⟨hi_19, h⟩ := gb_i h
              refine va_iald hx hb hK hP 9 0 rfl rfl (inb_in hi_19) d_Mo_at_75 ?_
              obtain ⟨x_20, ex_20, h⟩ := letb_i h
              refine lv_topn ex_20 ?_
              refine lv_iconst (v := 0) hx hb d_Mo_at_76 (by decide) ?_
              obtain ⟨r_21, hc_22, h⟩ := xv1_i h
              refine cVi (ws' := (wMo xMo cI cZ gMo_44)) (As := [.int v4_44, .int x_20, .int 0]) (rest := [.int v3_44]) C0 hP hD hS hl.1 [0, 1, 2, 3, 4, 5, 6, 7, 8, 9, 10, 11, 12, 13, 14, 15] (c_Mo_along_r l D cI cZ cJ xMo H.size gMo_44 v4_44 x_20 0 r_21 hc_22) k_Mo_along m_869 rfl rfl rfl rfl rfl (rp_same rfl) ⟨by decide, by decide⟩ ⟨rfl, rfl⟩ rfl (Nat.le_of_ble_eq_true rfl) d_Mo_at_77 ⟨Nat.zero_le _, Nat.zero_le _⟩ (fun H locs hP hD hS => ?_)
              refine lv_iadd hx hb d_Mo_at_80 ?_
              refine lv_aload_n hx hb d_Mo_at_81 rfl (lv_at hl 0 rfl) ?_
              refine va_get (ci := 8) (v := .int (gMo_44 0 13)) (C := R_Mo) (T := F_Mo) (N := 31) hx hb hts i_Mo hown hK hP 0 rfl rfl 13 (by decide) (hts _ m_717) (fun _ h9 => h9) rfl d_Mo_at_82 ?_
              refine lv_iadd hx hb d_Mo_at_85 ?_
              exact K86 ((v3_44 + r_21) + (gMo_44 0 13)) v3_44 v4_44 gMo_44 H locs ls hP hD hS (lv_sub hl [0, 1, 2, 3, 4] rfl) h
            · rw [if_pos c_18] at h
              refine lv_iload_n hx hb d_Mo_at_61 rfl (lv_at hl 3 rfl) ?_
              refine lv_goto (tgt := 86) hx hb d_Mo_at_62 (by decide) ?_
              exact K86 v3_44 v3_44 v4_44 gMo_44 H locs ls hP hD hS (lv_sub hl [0, 1, 2, 3, 4] rfl) h
      exact K44 FU x_7 0 gMo_4 H locs ls hP hD hS (lv_sub hl [2, 3, 4, 1, 0] rfl) h
    · rw [if_pos c_6] at h
      refine lv_iconst (v := 0) hx hb d_Mo_at_34 (by decide) ?_
      cases h
      rw [hQ]
      exact mi_ret C0 hr rfl hlk hP hD hS d_Mo_at_35
  have K22 : ∀ (H : Heap) (locs : List Loc) (ls : Array Slot), va_P D vwCl (wMo xMo cI cZ gMo) H → va_D A (wMo xMo cI cZ gMo) → va_S A s.heap H locs → lv_has ls 5 [(0, .ref (xMo 0)), (1, .int p1), (2, .int p2)] → f_Mo_at_J22 gMo p1 p2 = some (r, gMo1) → W p l e rm_Mo_at_r s m args below meth c H locs 0 0 Q (F0 m 22 ls [.ref (xMo 0)]) := by
    intro  H locs ls hP hD hS hl h
    unfold f_Mo_at_J22 at h
    refine lv_iconst (v := 0) hx hb d_Mo_at_22 (by decide) ?_
    exact K23 0 H locs ls hP hD hS (lv_sub hl [0, 1, 2] rfl) h
  refine lv_if_eq (tgt := 22) hx hb d_Mo_at_6 (by decide) (fun c_23 => ?_) (fun c_23 => ?_)
  · rw [if_pos c_23] at h
    exact K22  H locs ls hP hD hS (lv_sub hl [0, 1, 2] rfl) h
  · rw [if_neg c_23] at h
    refine lv_iload_n hx hb d_Mo_at_9 rfl (lv_at hl 2 rfl) ?_
    refine lv_iconst (v := (-1)) hx hb d_Mo_at_10 (by decide) ?_
    refine lv_iconst (v := 0) hx hb d_Mo_at_11 (by decide) ?_
    obtain ⟨r_24, hc_25, h⟩ := xv1_i h
    refine cSi (ws' := (wMo xMo cI cZ gMo)) (As := [.int p2, .int (-1), .int 0]) (rest := [.ref (xMo 0)]) C0 hP hD hS hl.1 [] (c_Mo_within_r l D cI cZ cJ  H.size p2 (-1) 0 r_24 hc_25) k_Mo_within m_806 rfl rfl rfl (rp_same rfl) ⟨by decide, by decide⟩ ⟨rfl, rfl⟩ rfl (Nat.le_of_ble_eq_true rfl) d_Mo_at_12 ⟨Nat.zero_le _, Nat.zero_le _⟩ (fun H locs hP hD hS => ?_)
    refine lv_if_eq (tgt := 22) hx hb d_Mo_at_15 (by decide) (fun c_26 => ?_) (fun c_26 => ?_)
    · rw [if_pos c_26] at h
      exact K22  H locs ls hP hD hS (lv_sub hl [0, 1, 2] rfl) h
    · rw [if_neg c_26] at h
      refine lv_iconst (v := 1) hx hb d_Mo_at_18 (by decide) ?_
      refine lv_goto (tgt := 23) hx hb d_Mo_at_19 (by decide) ?_
      exact K23 1 H locs ls hP hD hS (lv_sub hl [0, 1, 2] rfl) h
abbrev rm_Mo_crate_r : Room := { frames := 1, cells := 0, slots := 0, locals := 23 }
set_option maxRecDepth 100000 in
set_option maxHeartbeats 4000000 in
theorem c_Mo_crate_r (l : Launch) (D : va_G) (cI cZ cJ : ClassId) (xMo : Nat → Nat) (sz : Nat) (gMo : St) (p1 : Int32) (p2 : Int32) (p3 : Int32) (r : Int32) (gMo1 : St) (h : f_Mo_crate gMo p1 p2 p3 = some (r, gMo1)) : MI l y_Mo_crate b_Mo_crate 4 (some .int) rm_Mo_crate_r D (TYS cI cZ cJ) [.ref (xMo 0), .int p1, .int p2, .int p3] (wMo xMo cI cZ gMo) sz r (wMo xMo cI cZ gMo1) := by
  refine mi_start (own := R_Mo) (by decide +kernel) rfl (Nat.le_of_ble_eq_true rfl) (fun p e s m args below meth c A ls C0 hr hlk hP hD hS hl => ?_)
  obtain ⟨Q, hQ⟩ : ∃ Q, Q = QI below D (TYS cI cZ cJ) A (wMo xMo cI cZ gMo1) r args s := ⟨_, rfl⟩
  rw [← hQ]
  obtain ⟨hx, hb, -, hown, hts, hK, hE, -⟩ := id C0
  have hl : lv_has ls 4 [(0, .ref (xMo 0)), (1, .int p1), (2, .int p2), (3, .int p3)] := hl
  obtain ⟨H, hH⟩ : ∃ H, H = s.heap := ⟨_, rfl⟩
  have hP : va_P D vwCl (wMo xMo cI cZ gMo) H := by rw [hH]; exact hP
  have hS : va_S A s.heap H [] := by rw [hH]; exact hS
  rw [show W p l e rm_Mo_crate_r s m args below meth c s.heap = W p l e rm_Mo_crate_r s m args below meth c H by rw [hH]]
  generalize ([] : List Loc) = locs at hS ⊢
  unfold f_Mo_crate at h
  refine lv_aload_n hx hb d_Mo_crate_0 rfl (lv_at hl 0 rfl) ?_
  refine lv_aload_n hx hb d_Mo_crate_1 rfl (lv_at hl 0 rfl) ?_
  refine va_get (ci := 8) (v := .int (gMo 0 18)) (C := R_Mo) (T := F_Mo) (N := 31) hx hb hts i_Mo hown hK hP 0 rfl rfl 18 (by decide) (hts _ m_722) (fun _ h9 => h9) rfl d_Mo_crate_2 ?_
  refine lv_bipush (v := 10) hx hb d_Mo_crate_5 (by decide) ?_
  have K15 : ∀ (s1_15 : Int32) (H : Heap) (locs : List Loc) (ls : Array Slot), va_P D vwCl (wMo xMo cI cZ gMo) H → va_D A (wMo xMo cI cZ gMo) → va_S A s.heap H locs → lv_has ls 4 [(0, .ref (xMo 0)), (1, .int p1), (2, .int p2), (3, .int p3)] → f_Mo_crate_J15 gMo p1 p2 p3 s1_15 = some (r, gMo1) → W p l e rm_Mo_crate_r s m args below meth c H locs 0 0 Q (F0 m 15 ls [.int s1_15, .ref (xMo 0)]) := by
    intro s1_15 H locs ls hP hD hS hl h
    unfold f_Mo_crate_J15 at h
    refine lv_iload_n hx hb d_Mo_crate_15 rfl (lv_at hl 1 rfl) ?_
    refine lv_iconst (v := 1) hx hb d_Mo_crate_16 (by decide) ?_
    refine lv_sipush (v := 2000) hx hb d_Mo_crate_17 (by decide) ?_
    obtain ⟨r_1, hc_2, h⟩ := xv1_i h
    refine cSi (ws' := (wMo xMo cI cZ gMo)) (As := [.int p1, .int 1, .int 2000]) (rest := [.int s1_15, .ref (xMo 0)]) C0 hP hD hS hl.1 [] (c_Mo_within_r l D cI cZ cJ  H.size p1 1 2000 r_1 hc_2) k_Mo_within m_806 rfl rfl rfl (rp_same rfl) ⟨by decide, by decide⟩ ⟨rfl, rfl⟩ rfl (Nat.le_of_ble_eq_true rfl) d_Mo_crate_20 ⟨Nat.zero_le _, Nat.zero_le _⟩ (fun H locs hP hD hS => ?_)
    have K53 : ∀ (s1_53 : Int32) (s2_53 : Int32) (H : Heap) (locs : List Loc) (ls : Array Slot), va_P D vwCl (wMo xMo cI cZ gMo) H → va_D A (wMo xMo cI cZ gMo) → va_S A s.heap H locs → lv_has ls 4 [(0, .ref (xMo 0)), (1, .int p1), (2, .int p2), (3, .int p3)] → f_Mo_crate_J53 gMo p1 p2 p3 s1_53 s2_53 = some (r, gMo1) → W p l e rm_Mo_crate_r s m args below meth c H locs 0 0 Q (F0 m 53 ls [.int s2_53, .int s1_53, .ref (xMo 0)]) := by
      intro s1_53 s2_53 H locs ls hP hD hS hl h
      unfold f_Mo_crate_J53 at h
      refine lv_iconst (v := 1) hx hb d_Mo_crate_53 (by decide) ?_
      obtain ⟨r_3, gMo_4, hc_5, h⟩ := xv2_i h
      refine cVi (ws' := (wMo xMo cI cZ gMo_4)) (As := [.int s1_53, .int s2_53, .int 1]) (rest := []) C0 hP hD hS hl.1 [0, 1, 2, 3, 4, 5, 6, 7, 8, 9, 10, 11, 12, 13, 14, 15] (c_Mo_goes_r l D cI cZ cJ xMo H.size gMo s1_53 s2_53 1 r_3 gMo_4 hc_5) k_Mo_goes m_810 rfl rfl rfl rfl rfl (rp_all rfl rfl) ⟨by decide, by decide⟩ ⟨rfl, rfl⟩ rfl (Nat.le_of_ble_eq_true rfl) d_Mo_crate_54 ⟨Nat.zero_le _, Nat.zero_le _⟩ (fun H locs hP hD hS => ?_)
      refine lv_if_ne (tgt := 62) hx hb d_Mo_crate_57 (by decide) (fun c_6 => ?_) (fun c_6 => ?_)
      · rw [if_neg c_6] at h
        refine lv_aload_n hx hb d_Mo_crate_62 rfl (lv_at hl 0 rfl) ?_
        refine va_get (ci := 8) (v := .ref (xMo 12)) (C := R_Mo) (T := F_Mo) (N := 31) hx hb hts i_Mo hown hK hP 0 rfl rfl 19 (by decide) (hts _ m_723) (fun _ h9 => h9) rfl d_Mo_crate_63 ?_
        refine lv_iconst (v := 3) hx hb d_Mo_crate_66 (by decide) ?_
        refine lv_aload_n hx hb d_Mo_crate_67 rfl (lv_at hl 0 rfl) ?_
        refine va_get (ci := 8) (v := .int (gMo_4 0 18)) (C := R_Mo) (T := F_Mo) (N := 31) hx hb hts i_Mo hown hK hP 0 rfl rfl 18 (by decide) (hts _ m_722) (fun _ h9 => h9) rfl d_Mo_crate_68 ?_
        refine lv_imul hx hb d_Mo_crate_71 ?_
        refine lv_iload_n hx hb d_Mo_crate_72 rfl (lv_at hl 1 rfl) ?_
        obtain ⟨hi_7, h⟩ := gb_i h
        refine va_iast hx hb hK hP hD hS 12 0 rfl rfl (inb_in hi_7) d_Mo_crate_73 (fun H locs hP hD hS => ?_)
        obtain ⟨gMo_8, egMo_8, h⟩ := letb_i h
        have hP : va_P D vwCl (wMo xMo cI cZ gMo_8) H := by rw [egMo_8, u_Mo_12]; exact hP
        have hD : va_D A (wMo xMo cI cZ gMo_8) := by rw [egMo_8, u_Mo_12]; exact hD
        refine lv_aload_n hx hb d_Mo_crate_74 rfl (lv_at hl 0 rfl) ?_
        refine va_get (ci := 8) (v := .ref (xMo 12)) (C := R_Mo) (T := F_Mo) (N := 31) hx hb hts i_Mo hown hK hP 0 rfl rfl 19 (by decide) (hts _ m_723) (fun _ h9 => h9) rfl d_Mo_crate_75 ?_
        refine lv_iconst (v := 3) hx hb d_Mo_crate_78 (by decide) ?_
        refine lv_aload_n hx hb d_Mo_crate_79 rfl (lv_at hl 0 rfl) ?_
        refine va_get (ci := 8) (v := .int (gMo_8 0 18)) (C := R_Mo) (T := F_Mo) (N := 31) hx hb hts i_Mo hown hK hP 0 rfl rfl 18 (by decide) (hts _ m_722) (fun _ h9 => h9) rfl d_Mo_crate_80 ?_
        refine lv_imul hx hb d_Mo_crate_83 ?_
        refine lv_iconst (v := 1) hx hb d_Mo_crate_84 (by decide) ?_
        refine lv_iadd hx hb d_Mo_crate_85 ?_
        refine lv_iload_n hx hb d_Mo_crate_86 rfl (lv_at hl 2 rfl) ?_
        obtain ⟨hi_9, h⟩ := gb_i h
        refine va_iast hx hb hK hP hD hS 12 0 rfl rfl (inb_in hi_9) d_Mo_crate_87 (fun H locs hP hD hS => ?_)
        obtain ⟨gMo_10, egMo_10, h⟩ := letb_i h
        have hP : va_P D vwCl (wMo xMo cI cZ gMo_10) H := by rw [egMo_10, u_Mo_12]; exact hP
        have hD : va_D A (wMo xMo cI cZ gMo_10) := by rw [egMo_10, u_Mo_12]; exact hD
        refine lv_aload_n hx hb d_Mo_crate_88 rfl (lv_at hl 0 rfl) ?_
        refine va_get (ci := 8) (v := .ref (xMo 12)) (C := R_Mo) (T := F_Mo) (N := 31) hx hb hts i_Mo hown hK hP 0 rfl rfl 19 (by decide) (hts _ m_723) (fun _ h9 => h9) rfl d_Mo_crate_89 ?_
        refine lv_iconst (v := 3) hx hb d_Mo_crate_92 (by decide) ?_
        refine lv_aload_n hx hb d_Mo_crate_93 rfl (lv_at hl 0 rfl) ?_
        refine va_get (ci := 8) (v := .int (gMo_10 0 18)) (C := R_Mo) (T := F_Mo) (N := 31) hx hb hts i_Mo hown hK hP 0 rfl rfl 18 (by decide) (hts _ m_722) (fun _ h9 => h9) rfl d_Mo_crate_94 ?_
        refine lv_imul hx hb d_Mo_crate_97 ?_
        refine lv_iconst (v := 2) hx hb d_Mo_crate_98 (by decide) ?_
        refine lv_iadd hx hb d_Mo_crate_99 ?_
        refine lv_iload_n hx hb d_Mo_crate_100 rfl (lv_at hl 3 rfl) ?_
        obtain ⟨hi_11, h⟩ := gb_i h
        refine va_iast hx hb hK hP hD hS 12 0 rfl rfl (inb_in hi_11) d_Mo_crate_101 (fun H locs hP hD hS => ?_)
        obtain ⟨gMo_12, egMo_12, h⟩ := letb_i h
        have hP : va_P D vwCl (wMo xMo cI cZ gMo_12) H := by rw [egMo_12, u_Mo_12]; exact hP
        have hD : va_D A (wMo xMo cI cZ gMo_12) := by rw [egMo_12, u_Mo_12]; exact hD
        refine lv_aload_n hx hb d_Mo_crate_102 rfl (lv_at hl 0 rfl) ?_
        refine lv_dup hx hb d_Mo_crate_103 rfl ?_
        refine va_get (ci := 8) (v := .int (gMo_12 0 18)) (C := R_Mo) (T := F_Mo) (N := 31) hx hb hts i_Mo hown hK hP 0 rfl rfl 18 (by decide) (hts _ m_722) (fun _ h9 => h9) rfl d_Mo_crate_104 ?_
        refine lv_iconst (v := 1) hx hb d_Mo_crate_107 (by decide) ?_
        refine lv_iadd hx hb d_Mo_crate_108 ?_
        refine va_put (ci := 8) (v := .int ((gMo_12 0 18) + 1)) (ty := .int) (C := R_Mo) (T := F_Mo) (N := 31) hx hb hts i_Mo t_Mo o_Mo n_Mo hown hK hP hD hS 0 rfl rfl 18 (by decide) (hts _ m_722) (fun _ h9 => h9) rfl (by decide +kernel) rfl rfl (Nat.le_of_ble_eq_true rfl) d_Mo_crate_109 (fun H locs hP hD hS => ?_)
        obtain ⟨gMo_13, egMo_13, h⟩ := letb_i h
        have hP : va_P D vwCl (wMo xMo cI cZ gMo_13) H := by rw [egMo_13, u_Mo_0_18]; exact hP
        have hD : va_D A (wMo xMo cI cZ gMo_13) := by rw [egMo_13, u_Mo_0_18]; exact hD
        refine lv_aload_n hx hb d_Mo_crate_112 rfl (lv_at hl 0 rfl) ?_
        refine va_get (ci := 8) (v := .int (gMo_13 0 18)) (C := R_Mo) (T := F_Mo) (N := 31) hx hb hts i_Mo hown hK hP 0 rfl rfl 18 (by decide) (hts _ m_722) (fun _ h9 => h9) rfl d_Mo_crate_113 ?_
        refine lv_iconst (v := 1) hx hb d_Mo_crate_116 (by decide) ?_
        refine lv_isub hx hb d_Mo_crate_117 ?_
        cases h
        rw [hQ]
        exact mi_ret C0 hr rfl hlk hP hD hS d_Mo_crate_118
      · rw [if_pos c_6] at h
        refine lv_iconst (v := 0) hx hb d_Mo_crate_60 (by decide) ?_
        cases h
        rw [hQ]
        exact mi_ret C0 hr rfl hlk hP hD hS d_Mo_crate_61
    have K52 : ∀ (s1_52 : Int32) (H : Heap) (locs : List Loc) (ls : Array Slot), va_P D vwCl (wMo xMo cI cZ gMo) H → va_D A (wMo xMo cI cZ gMo) → va_S A s.heap H locs → lv_has ls 4 [(0, .ref (xMo 0)), (1, .int p1), (2, .int p2), (3, .int p3)] → f_Mo_crate_J52 gMo p1 p2 p3 s1_52 = some (r, gMo1) → W p l e rm_Mo_crate_r s m args below meth c H locs 0 0 Q (F0 m 52 ls [.int s1_52, .ref (xMo 0)]) := by
      intro s1_52 H locs ls hP hD hS hl h
      unfold f_Mo_crate_J52 at h
      refine lv_iconst (v := 0) hx hb d_Mo_crate_52 (by decide) ?_
      exact K53 s1_52 0 H locs ls hP hD hS (lv_sub hl [0, 1, 2, 3] rfl) h
    refine lv_if_eq (tgt := 52) hx hb d_Mo_crate_23 (by decide) (fun c_14 => ?_) (fun c_14 => ?_)
    · rw [if_pos c_14] at h
      exact K52 s1_15 H locs ls hP hD hS (lv_sub hl [0, 1, 2, 3] rfl) h
    · rw [if_neg c_14] at h
      refine lv_iload_n hx hb d_Mo_crate_26 rfl (lv_at hl 2 rfl) ?_
      refine lv_iconst (v := 1) hx hb d_Mo_crate_27 (by decide) ?_
      refine lv_sipush (v := 2000) hx hb d_Mo_crate_28 (by decide) ?_
      obtain ⟨r_15, hc_16, h⟩ := xv1_i h
      refine cSi (ws' := (wMo xMo cI cZ gMo)) (As := [.int p2, .int 1, .int 2000]) (rest := [.int s1_15, .ref (xMo 0)]) C0 hP hD hS hl.1 [] (c_Mo_within_r l D cI cZ cJ  H.size p2 1 2000 r_15 hc_16) k_Mo_within m_806 rfl rfl rfl (rp_same rfl) ⟨by decide, by decide⟩ ⟨rfl, rfl⟩ rfl (Nat.le_of_ble_eq_true rfl) d_Mo_crate_31 ⟨Nat.zero_le _, Nat.zero_le _⟩ (fun H locs hP hD hS => ?_)
      refine lv_if_eq (tgt := 52) hx hb d_Mo_crate_34 (by decide) (fun c_17 => ?_) (fun c_17 => ?_)
      · rw [if_pos c_17] at h
        exact K52 s1_15 H locs ls hP hD hS (lv_sub hl [0, 1, 2, 3] rfl) h
      · rw [if_neg c_17] at h
        refine lv_iload_n hx hb d_Mo_crate_37 rfl (lv_at hl 3 rfl) ?_
        refine lv_iconst (v := 1) hx hb d_Mo_crate_38 (by decide) ?_
        refine lv_sipush (v := 2000) hx hb d_Mo_crate_39 (by decide) ?_
        obtain ⟨r_18, hc_19, h⟩ := xv1_i h
        refine cSi (ws' := (wMo xMo cI cZ gMo)) (As := [.int p3, .int 1, .int 2000]) (rest := [.int s1_15, .ref (xMo 0)]) C0 hP hD hS hl.1 [] (c_Mo_within_r l D cI cZ cJ  H.size p3 1 2000 r_18 hc_19) k_Mo_within m_806 rfl rfl rfl (rp_same rfl) ⟨by decide, by decide⟩ ⟨rfl, rfl⟩ rfl (Nat.le_of_ble_eq_true rfl) d_Mo_crate_42 ⟨Nat.zero_le _, Nat.zero_le _⟩ (fun H locs hP hD hS => ?_)
        refine lv_if_eq (tgt := 52) hx hb d_Mo_crate_45 (by decide) (fun c_20 => ?_) (fun c_20 => ?_)
        · rw [if_pos c_20] at h
          exact K52 s1_15 H locs ls hP hD hS (lv_sub hl [0, 1, 2, 3] rfl) h
        · rw [if_neg c_20] at h
          refine lv_iconst (v := 1) hx hb d_Mo_crate_48 (by decide) ?_
          refine lv_goto (tgt := 53) hx hb d_Mo_crate_49 (by decide) ?_
          exact K53 s1_15 1 H locs ls hP hD hS (lv_sub hl [0, 1, 2, 3] rfl) h
  refine lv_icmp_ge (tgt := 14) hx hb d_Mo_crate_7 (by decide) (fun c_21 => ?_) (fun c_21 => ?_)
  · rw [if_pos c_21] at h
    refine lv_iconst (v := 0) hx hb d_Mo_crate_14 (by decide) ?_
    exact K15 0 H locs ls hP hD hS (lv_sub hl [0, 1, 2, 3] rfl) h
  · rw [if_neg c_21] at h
    refine lv_iconst (v := 1) hx hb d_Mo_crate_10 (by decide) ?_
    refine lv_goto (tgt := 15) hx hb d_Mo_crate_11 (by decide) ?_
    exact K15 1 H locs ls hP hD hS (lv_sub hl [0, 1, 2, 3] rfl) h
abbrev rm_Mo_hasRoom_r : Room := { frames := 0, cells := 0, slots := 0, locals := 0 }
set_option maxRecDepth 100000 in
set_option maxHeartbeats 4000000 in
theorem c_Mo_hasRoom_r (l : Launch) (D : va_G) (cI cZ cJ : ClassId) (xMo : Nat → Nat) (sz : Nat) (gMo : St) (p1 : Int32) (r : Int32) (h : f_Mo_hasRoom gMo p1 = some r) : MI l y_Mo_hasRoom b_Mo_hasRoom 6 (some .boolean) rm_Mo_hasRoom_r D (TYS cI cZ cJ) [.ref (xMo 0), .int p1] (wMo xMo cI cZ gMo) sz r (wMo xMo cI cZ gMo) := by
  refine mi_start (own := R_Mo) (by decide +kernel) rfl (Nat.le_of_ble_eq_true rfl) (fun p e s m args below meth c A ls C0 hr hlk hP hD hS hl => ?_)
  obtain ⟨Q, hQ⟩ : ∃ Q, Q = QI below D (TYS cI cZ cJ) A (wMo xMo cI cZ gMo) r args s := ⟨_, rfl⟩
  rw [← hQ]
  obtain ⟨hx, hb, -, hown, hts, hK, hE, -⟩ := id C0
  have hl : lv_has ls 6 [(0, .ref (xMo 0)), (1, .int p1)] := hl
  obtain ⟨H, hH⟩ : ∃ H, H = s.heap := ⟨_, rfl⟩
  have hP : va_P D vwCl (wMo xMo cI cZ gMo) H := by rw [hH]; exact hP
  have hS : va_S A s.heap H [] := by rw [hH]; exact hS
  rw [show W p l e rm_Mo_hasRoom_r s m args below meth c s.heap = W p l e rm_Mo_hasRoom_r s m args below meth c H by rw [hH]]
  generalize ([] : List Loc) = locs at hS ⊢
  unfold f_Mo_hasRoom at h
  refine lv_aload_n hx hb d_Mo_hasRoom_0 rfl (lv_at hl 0 rfl) ?_
  refine va_get (ci := 8) (v := .ref (xMo 12)) (C := R_Mo) (T := F_Mo) (N := 31) hx hb hts i_Mo hown hK hP 0 rfl rfl 19 (by decide) (hts _ m_723) (fun _ h9 => h9) rfl d_Mo_hasRoom_1 ?_
  refine lv_iconst (v := 3) hx hb d_Mo_hasRoom_4 (by decide) ?_
  refine lv_iload_n hx hb d_Mo_hasRoom_5 rfl (lv_at hl 1 rfl) ?_
  refine lv_imul hx hb d_Mo_hasRoom_6 ?_
  obtain ⟨hi_1, h⟩ := gb_i h
  refine va_iald hx hb hK hP 12 0 rfl rfl (inb_in hi_1) d_Mo_hasRoom_7 ?_
  obtain ⟨x_2, ex_2, h⟩ := letb_i h
  refine lv_topn ex_2 ?_
  refine lv_istore_n (lv' := [(2, .int x_2), (0, .ref (xMo 0)), (1, .int p1)]) hx hb d_Mo_hasRoom_8 rfl hl (by decide) rfl (fun ls hl => ?_)
  refine lv_aload_n hx hb d_Mo_hasRoom_9 rfl (lv_at hl 1 rfl) ?_
  refine va_get (ci := 8) (v := .ref (xMo 12)) (C := R_Mo) (T := F_Mo) (N := 31) hx hb hts i_Mo hown hK hP 0 rfl rfl 19 (by decide) (hts _ m_723) (fun _ h9 => h9) rfl d_Mo_hasRoom_10 ?_
  refine lv_iconst (v := 3) hx hb d_Mo_hasRoom_13 (by decide) ?_
  refine lv_iload_n hx hb d_Mo_hasRoom_14 rfl (lv_at hl 2 rfl) ?_
  refine lv_imul hx hb d_Mo_hasRoom_15 ?_
  refine lv_iconst (v := 1) hx hb d_Mo_hasRoom_16 (by decide) ?_
  refine lv_iadd hx hb d_Mo_hasRoom_17 ?_
  obtain ⟨hi_3, h⟩ := gb_i h
  refine va_iald hx hb hK hP 12 0 rfl rfl (inb_in hi_3) d_Mo_hasRoom_18 ?_
  obtain ⟨x_4, ex_4, h⟩ := letb_i h
  refine lv_topn ex_4 ?_
  refine lv_istore_n (lv' := [(3, .int x_4), (2, .int x_2), (0, .ref (xMo 0)), (1, .int p1)]) hx hb d_Mo_hasRoom_19 rfl hl (by decide) rfl (fun ls hl => ?_)
  refine lv_aload_n hx hb d_Mo_hasRoom_20 rfl (lv_at hl 2 rfl) ?_
  refine va_get (ci := 8) (v := .int (gMo 0 14)) (C := R_Mo) (T := F_Mo) (N := 31) hx hb hts i_Mo hown hK hP 0 rfl rfl 14 (by decide) (hts _ m_718) (fun _ h9 => h9) rfl d_Mo_hasRoom_21 ?_
  refine lv_iload_n hx hb d_Mo_hasRoom_24 rfl (lv_at hl 1 rfl) ?_
  have K41 : ∀ (s0_41 : Int32) (v2_41 : Int32) (v3_41 : Int32) (H : Heap) (locs : List Loc) (ls : Array Slot), va_P D vwCl (wMo xMo cI cZ gMo) H → va_D A (wMo xMo cI cZ gMo) → va_S A s.heap H locs → lv_has ls 6 [(0, .ref (xMo 0)), (1, .int p1), (2, .int v2_41), (3, .int v3_41)] → f_Mo_hasRoom_J41 gMo p1 s0_41 v2_41 v3_41 = some r → W p l e rm_Mo_hasRoom_r s m args below meth c H locs 0 0 Q (F0 m 41 ls [.int s0_41]) := by
    intro s0_41 v2_41 v3_41 H locs ls hP hD hS hl h
    unfold f_Mo_hasRoom_J41 at h
    refine lv_istore (lv' := [(4, .int s0_41), (0, .ref (xMo 0)), (1, .int p1), (2, .int v2_41), (3, .int v3_41)]) hx hb d_Mo_hasRoom_41 hl (by decide) rfl (fun ls hl => ?_)
    refine lv_aload_n hx hb d_Mo_hasRoom_43 rfl (lv_at hl 1 rfl) ?_
    refine va_get (ci := 8) (v := .int (gMo 0 14)) (C := R_Mo) (T := F_Mo) (N := 31) hx hb hts i_Mo hown hK hP 0 rfl rfl 14 (by decide) (hts _ m_718) (fun _ h9 => h9) rfl d_Mo_hasRoom_44 ?_
    refine lv_iload_n hx hb d_Mo_hasRoom_47 rfl (lv_at hl 4 rfl) ?_
    have K64 : ∀ (s0_64 : Int32) (v2_64 : Int32) (v3_64 : Int32) (v4_64 : Int32) (H : Heap) (locs : List Loc) (ls : Array Slot), va_P D vwCl (wMo xMo cI cZ gMo) H → va_D A (wMo xMo cI cZ gMo) → va_S A s.heap H locs → lv_has ls 6 [(0, .ref (xMo 0)), (1, .int p1), (2, .int v2_64), (3, .int v3_64), (4, .int v4_64)] → f_Mo_hasRoom_J64 gMo p1 s0_64 v2_64 v3_64 v4_64 = some r → W p l e rm_Mo_hasRoom_r s m args below meth c H locs 0 0 Q (F0 m 64 ls [.int s0_64]) := by
      intro s0_64 v2_64 v3_64 v4_64 H locs ls hP hD hS hl h
      unfold f_Mo_hasRoom_J64 at h
      refine lv_istore (lv' := [(5, .int s0_64), (0, .ref (xMo 0)), (1, .int p1), (2, .int v2_64), (3, .int v3_64), (4, .int v4_64)]) hx hb d_Mo_hasRoom_64 hl (by decide) rfl (fun ls hl => ?_)
      refine lv_iload hx hb d_Mo_hasRoom_66 (lv_at hl 5 rfl) ?_
      have K76 : ∀ (v2_76 : Int32) (v3_76 : Int32) (v4_76 : Int32) (v5_76 : Int32) (H : Heap) (locs : List Loc) (ls : Array Slot), va_P D vwCl (wMo xMo cI cZ gMo) H → va_D A (wMo xMo cI cZ gMo) → va_S A s.heap H locs → lv_has ls 6 [(0, .ref (xMo 0)), (1, .int p1), (2, .int v2_76), (3, .int v3_76), (4, .int v4_76), (5, .int v5_76)] → f_Mo_hasRoom_J76 gMo p1 v2_76 v3_76 v4_76 v5_76 = some r → W p l e rm_Mo_hasRoom_r s m args below meth c H locs 0 0 Q (F0 m 76 ls []) := by
        intro v2_76 v3_76 v4_76 v5_76 H locs ls hP hD hS hl h
        unfold f_Mo_hasRoom_J76 at h
        refine lv_aload_n hx hb d_Mo_hasRoom_76 rfl (lv_at hl 0 rfl) ?_
        refine va_get (ci := 8) (v := .int (gMo 0 16)) (C := R_Mo) (T := F_Mo) (N := 31) hx hb hts i_Mo hown hK hP 0 rfl rfl 16 (by decide) (hts _ m_720) (fun _ h9 => h9) rfl d_Mo_hasRoom_77 ?_
        refine lv_aload_n hx hb d_Mo_hasRoom_80 rfl (lv_at hl 0 rfl) ?_
        refine va_get (ci := 8) (v := .ref (xMo 12)) (C := R_Mo) (T := F_Mo) (N := 31) hx hb hts i_Mo hown hK hP 0 rfl rfl 19 (by decide) (hts _ m_723) (fun _ h9 => h9) rfl d_Mo_hasRoom_81 ?_
        refine lv_iconst (v := 3) hx hb d_Mo_hasRoom_84 (by decide) ?_
        refine lv_iload_n hx hb d_Mo_hasRoom_85 rfl (lv_at hl 1 rfl) ?_
        refine lv_imul hx hb d_Mo_hasRoom_86 ?_
        refine lv_iconst (v := 2) hx hb d_Mo_hasRoom_87 (by decide) ?_
        refine lv_iadd hx hb d_Mo_hasRoom_88 ?_
        obtain ⟨hi_5, h⟩ := gb_i h
        refine va_iald hx hb hK hP 12 0 rfl rfl (inb_in hi_5) d_Mo_hasRoom_89 ?_
        obtain ⟨x_6, ex_6, h⟩ := letb_i h
        refine lv_topn ex_6 ?_
        refine lv_icmp_gt (tgt := 97) hx hb d_Mo_hasRoom_90 (by decide) (fun c_7 => ?_) (fun c_7 => ?_)
        · rw [if_pos c_7] at h
          refine lv_iconst (v := 0) hx hb d_Mo_hasRoom_97 (by decide) ?_
          cases h
          rw [hQ]
          exact mi_ret C0 hr rfl hlk hP hD hS d_Mo_hasRoom_98
        · rw [if_neg c_7] at h
          refine lv_iconst (v := 1) hx hb d_Mo_hasRoom_93 (by decide) ?_
          refine lv_goto (tgt := 98) hx hb d_Mo_hasRoom_94 (by decide) ?_
          cases h
          rw [hQ]
          exact mi_ret C0 hr rfl hlk hP hD hS d_Mo_hasRoom_98
      refine lv_if_ne (tgt := 76) hx hb d_Mo_hasRoom_68 (by decide) (fun c_8 => ?_) (fun c_8 => ?_)
      · rw [if_neg c_8] at h
        exact K76 v2_64 v3_64 v4_64 s0_64 H locs ls hP hD hS (lv_sub hl [1, 2, 3, 4, 5, 0] rfl) h
      · rw [if_pos c_8] at h
        refine lv_iload hx hb d_Mo_hasRoom_71 (lv_at hl 0 rfl) ?_
        refine lv_if_eq (tgt := 97) hx hb d_Mo_hasRoom_73 (by decide) (fun c_9 => ?_) (fun c_9 => ?_)
        · rw [if_pos c_9] at h
          refine lv_iconst (v := 0) hx hb d_Mo_hasRoom_97 (by decide) ?_
          cases h
          rw [hQ]
          exact mi_ret C0 hr rfl hlk hP hD hS d_Mo_hasRoom_98
        · rw [if_neg c_9] at h
          exact K76 v2_64 v3_64 v4_64 s0_64 H locs ls hP hD hS (lv_sub hl [1, 2, 3, 4, 5, 0] rfl) h
    have K63 : ∀ (v2_63 : Int32) (v3_63 : Int32) (v4_63 : Int32) (H : Heap) (locs : List Loc) (ls : Array Slot), va_P D vwCl (wMo xMo cI cZ gMo) H → va_D A (wMo xMo cI cZ gMo) → va_S A s.heap H locs → lv_has ls 6 [(0, .ref (xMo 0)), (1, .int p1), (2, .int v2_63), (3, .int v3_63), (4, .int v4_63)] → f_Mo_hasRoom_J63 gMo p1 v2_63 v3_63 v4_63 = some r → W p l e rm_Mo_hasRoom_r s m args below meth c H locs 0 0 Q (F0 m 63 ls []) := by
      intro v2_63 v3_63 v4_63 H locs ls hP hD hS hl h
      unfold f_Mo_hasRoom_J63 at h
      refine lv_iconst (v := 0) hx hb d_Mo_hasRoom_63 (by decide) ?_
      exact K64 0 v2_63 v3_63 v4_63 H locs ls hP hD hS (lv_sub hl [0, 1, 2, 3, 4] rfl) h
    refine lv_icmp_gt (tgt := 63) hx hb d_Mo_hasRoom_48 (by decide) (fun c_10 => ?_) (fun c_10 => ?_)
    · rw [if_pos c_10] at h
      exact K63 v2_41 v3_41 s0_41 H locs ls hP hD hS (lv_sub hl [1, 2, 3, 4, 0] rfl) h
    · rw [if_neg c_10] at h
      refine lv_aload_n hx hb d_Mo_hasRoom_51 rfl (lv_at hl 1 rfl) ?_
      refine va_get (ci := 8) (v := .int (gMo 0 15)) (C := R_Mo) (T := F_Mo) (N := 31) hx hb hts i_Mo hown hK hP 0 rfl rfl 15 (by decide) (hts _ m_719) (fun _ h9 => h9) rfl d_Mo_hasRoom_52 ?_
      refine lv_iload_n hx hb d_Mo_hasRoom_55 rfl (lv_at hl 3 rfl) ?_
      refine lv_icmp_gt (tgt := 63) hx hb d_Mo_hasRoom_56 (by decide) (fun c_11 => ?_) (fun c_11 => ?_)
      · rw [if_pos c_11] at h
        exact K63 v2_41 v3_41 s0_41 H locs ls hP hD hS (lv_sub hl [1, 2, 3, 4, 0] rfl) h
      · rw [if_neg c_11] at h
        refine lv_iconst (v := 1) hx hb d_Mo_hasRoom_59 (by decide) ?_
        refine lv_goto (tgt := 64) hx hb d_Mo_hasRoom_60 (by decide) ?_
        exact K64 1 v2_41 v3_41 s0_41 H locs ls hP hD hS (lv_sub hl [1, 2, 3, 4, 0] rfl) h
  have K40 : ∀ (v2_40 : Int32) (v3_40 : Int32) (H : Heap) (locs : List Loc) (ls : Array Slot), va_P D vwCl (wMo xMo cI cZ gMo) H → va_D A (wMo xMo cI cZ gMo) → va_S A s.heap H locs → lv_has ls 6 [(0, .ref (xMo 0)), (1, .int p1), (2, .int v2_40), (3, .int v3_40)] → f_Mo_hasRoom_J40 gMo p1 v2_40 v3_40 = some r → W p l e rm_Mo_hasRoom_r s m args below meth c H locs 0 0 Q (F0 m 40 ls []) := by
    intro v2_40 v3_40 H locs ls hP hD hS hl h
    unfold f_Mo_hasRoom_J40 at h
    refine lv_iconst (v := 0) hx hb d_Mo_hasRoom_40 (by decide) ?_
    exact K41 0 v2_40 v3_40 H locs ls hP hD hS (lv_sub hl [0, 1, 2, 3] rfl) h
  refine lv_icmp_gt (tgt := 40) hx hb d_Mo_hasRoom_25 (by decide) (fun c_12 => ?_) (fun c_12 => ?_)
  · rw [if_pos c_12] at h
    exact K40 x_2 x_4 H locs ls hP hD hS (lv_sub hl [2, 3, 1, 0] rfl) h
  · rw [if_neg c_12] at h
    refine lv_aload_n hx hb d_Mo_hasRoom_28 rfl (lv_at hl 2 rfl) ?_
    refine va_get (ci := 8) (v := .int (gMo 0 15)) (C := R_Mo) (T := F_Mo) (N := 31) hx hb hts i_Mo hown hK hP 0 rfl rfl 15 (by decide) (hts _ m_719) (fun _ h9 => h9) rfl d_Mo_hasRoom_29 ?_
    refine lv_iload_n hx hb d_Mo_hasRoom_32 rfl (lv_at hl 0 rfl) ?_
    refine lv_icmp_gt (tgt := 40) hx hb d_Mo_hasRoom_33 (by decide) (fun c_13 => ?_) (fun c_13 => ?_)
    · rw [if_pos c_13] at h
      exact K40 x_2 x_4 H locs ls hP hD hS (lv_sub hl [2, 3, 1, 0] rfl) h
    · rw [if_neg c_13] at h
      refine lv_iconst (v := 1) hx hb d_Mo_hasRoom_36 (by decide) ?_
      refine lv_goto (tgt := 41) hx hb d_Mo_hasRoom_37 (by decide) ?_
      exact K41 1 x_2 x_4 H locs ls hP hD hS (lv_sub hl [2, 3, 1, 0] rfl) h
abbrev rm_Mo_match_r : Room := { frames := 1, cells := 0, slots := 0, locals := 25 }
set_option maxRecDepth 100000 in
set_option maxHeartbeats 4000000 in
theorem c_Mo_match_r (l : Launch) (D : va_G) (cI cZ cJ : ClassId) (xMo : Nat → Nat) (sz : Nat) (gMo : St)  (r : Int32) (gMo1 : St) (h : f_Mo_match gMo = some (r, gMo1)) : MI l y_Mo_match b_Mo_match 7 (some .int) rm_Mo_match_r D (TYS cI cZ cJ) [.ref (xMo 0)] (wMo xMo cI cZ gMo) sz r (wMo xMo cI cZ gMo1) := by
  refine mi_start (own := R_Mo) (by decide +kernel) rfl (Nat.le_of_ble_eq_true rfl) (fun p e s m args below meth c A ls C0 hr hlk hP hD hS hl => ?_)
  obtain ⟨Q, hQ⟩ : ∃ Q, Q = QI below D (TYS cI cZ cJ) A (wMo xMo cI cZ gMo1) r args s := ⟨_, rfl⟩
  rw [← hQ]
  obtain ⟨hx, hb, -, hown, hts, hK, hE, -⟩ := id C0
  have hl : lv_has ls 7 [(0, .ref (xMo 0))] := hl
  obtain ⟨H, hH⟩ : ∃ H, H = s.heap := ⟨_, rfl⟩
  have hP : va_P D vwCl (wMo xMo cI cZ gMo) H := by rw [hH]; exact hP
  have hS : va_S A s.heap H [] := by rw [hH]; exact hS
  rw [show W p l e rm_Mo_match_r s m args below meth c s.heap = W p l e rm_Mo_match_r s m args below meth c H by rw [hH]]
  generalize ([] : List Loc) = locs at hS ⊢
  unfold f_Mo_match at h
  refine lv_aload_n hx hb d_Mo_match_0 rfl (lv_at hl 0 rfl) ?_
  refine lv_aload_n hx hb d_Mo_match_1 rfl (lv_at hl 0 rfl) ?_
  refine va_get (ci := 8) (v := .int (gMo 0 10)) (C := R_Mo) (T := F_Mo) (N := 31) hx hb hts i_Mo hown hK hP 0 rfl rfl 10 (by decide) (hts _ m_714) (fun _ h9 => h9) rfl d_Mo_match_2 ?_
  refine lv_iconst (v := 1) hx hb d_Mo_match_5 (by decide) ?_
  refine lv_iconst (v := 1) hx hb d_Mo_match_6 (by decide) ?_
  obtain ⟨r_1, gMo_2, hc_3, h⟩ := xv2_i h
  refine cVi (ws' := (wMo xMo cI cZ gMo_2)) (As := [.int (gMo 0 10), .int 1, .int 1]) (rest := []) C0 hP hD hS hl.1 [0, 1, 2, 3, 4, 5, 6, 7, 8, 9, 10, 11, 12, 13, 14, 15] (c_Mo_goes_r l D cI cZ cJ xMo H.size gMo (gMo 0 10) 1 1 r_1 gMo_2 hc_3) k_Mo_goes m_810 rfl rfl rfl rfl rfl (rp_all rfl rfl) ⟨by decide, by decide⟩ ⟨rfl, rfl⟩ rfl (Nat.le_of_ble_eq_true rfl) d_Mo_match_7 ⟨Nat.zero_le _, Nat.zero_le _⟩ (fun H locs hP hD hS => ?_)
  refine lv_if_ne (tgt := 15) hx hb d_Mo_match_10 (by decide) (fun c_4 => ?_) (fun c_4 => ?_)
  · rw [if_neg c_4] at h
    refine lv_iconst (v := (-1)) hx hb d_Mo_match_15 (by decide) ?_
    refine lv_istore_n (lv' := [(1, .int (-1)), (0, .ref (xMo 0))]) hx hb d_Mo_match_16 rfl hl (by decide) rfl (fun ls hl => ?_)
    refine lv_lconst (v := 0) hx hb d_Mo_match_17 (by decide) ?_
    refine lv_lstore_n (lv' := [(2, .long 0), (1, .int (-1)), (0, .ref (xMo 0))]) hx hb d_Mo_match_18 rfl hl (by decide) rfl (fun ls hl => ?_)
    refine lv_iconst (v := 0) hx hb d_Mo_match_19 (by decide) ?_
    refine lv_istore (lv' := [(4, .int 0), (2, .long 0), (1, .int (-1)), (0, .ref (xMo 0))]) hx hb d_Mo_match_20 hl (by decide) rfl (fun ls hl => ?_)
    have K112 : ∀ (v1_112 : Int32) (v2_112 : Int64) (v4_112 : Int32) (gMo_112 : St) (H : Heap) (locs : List Loc) (ls : Array Slot), va_P D vwCl (wMo xMo cI cZ gMo_112) H → va_D A (wMo xMo cI cZ gMo_112) → va_S A s.heap H locs → lv_has ls 7 [(0, .ref (xMo 0)), (1, .int v1_112), (2, .long v2_112), (4, .int v4_112)] → f_Mo_match_X112 v1_112 v2_112 v4_112 gMo_112 = some (r, gMo1) → W p l e rm_Mo_match_r s m args below meth c H locs 0 0 Q (F0 m 112 ls []) := by
      intro v1_112 v2_112 v4_112 gMo_112 H locs ls hP hD hS hl h
      unfold f_Mo_match_X112 at h
      refine lv_iload_n hx hb d_Mo_match_112 rfl (lv_at hl 1 rfl) ?_
      refine lv_iconst (v := (-1)) hx hb d_Mo_match_113 (by decide) ?_
      refine lv_icmp_eq (tgt := 124) hx hb d_Mo_match_114 (by decide) (fun c_5 => ?_) (fun c_5 => ?_)
      · rw [if_pos c_5] at h
        refine lv_iload_n hx hb d_Mo_match_124 rfl (lv_at hl 1 rfl) ?_
        cases h
        rw [hQ]
        exact mi_ret C0 hr rfl hlk hP hD hS d_Mo_match_125
      · rw [if_neg c_5] at h
        refine lv_aload_n hx hb d_Mo_match_117 rfl (lv_at hl 0 rfl) ?_
        refine va_get (ci := 8) (v := .ref (xMo 13)) (C := R_Mo) (T := F_Mo) (N := 31) hx hb hts i_Mo hown hK hP 0 rfl rfl 20 (by decide) (hts _ m_724) (fun _ h9 => h9) rfl d_Mo_match_118 ?_
        refine lv_iload_n hx hb d_Mo_match_121 rfl (lv_at hl 1 rfl) ?_
        refine lv_iconst (v := 1) hx hb d_Mo_match_122 (by decide) ?_
        obtain ⟨hi_6, h⟩ := gb_i h
        refine va_zast hx hb hK hP hD hS 13 1 rfl rfl (inb_in hi_6) d_Mo_match_123 (fun H locs hP hD hS => ?_)
        obtain ⟨gMo_7, egMo_7, h⟩ := letb_i h
        have hP : va_P D vwCl (wMo xMo cI cZ gMo_7) H := by rw [egMo_7, u_Mo_13]; exact hP
        have hD : va_D A (wMo xMo cI cZ gMo_7) := by rw [egMo_7, u_Mo_13]; exact hD
        refine lv_iload_n hx hb d_Mo_match_124 rfl (lv_at hl 1 rfl) ?_
        cases h
        rw [hQ]
        exact mi_ret C0 hr rfl hlk hP hD hS d_Mo_match_125
    have K22 : ∀ (n : Nat) (v1_22 : Int32) (v2_22 : Int64) (v4_22 : Int32) (gMo_22 : St) (H : Heap) (locs : List Loc) (ls : Array Slot), va_P D vwCl (wMo xMo cI cZ gMo_22) H → va_D A (wMo xMo cI cZ gMo_22) → va_S A s.heap H locs → lv_has ls 7 [(0, .ref (xMo 0)), (1, .int v1_22), (2, .long v2_22), (4, .int v4_22)] → it4 (f_Mo_match_L22) n v1_22 v2_22 v4_22 gMo_22 = some (r, gMo1) → W p l e rm_Mo_match_r s m args below meth c H locs 0 0 Q (F0 m 22 ls []) := by
      intro n
      induction n with
      | zero => intro v1_22 v2_22 v4_22 gMo_22 H locs ls hP hD hS hl h; exact (it4_0 h).elim
      | succ n ih =>
        intro v1_22 v2_22 v4_22 gMo_22 H locs ls hP hD hS hl h
        rw [it4_s, f_Mo_match_L22] at h
        generalize it4 (f_Mo_match_L22) n = kc_22 at h ih
        refine lv_iload hx hb d_Mo_match_22 (lv_at hl 3 rfl) ?_
        refine lv_aload_n hx hb d_Mo_match_24 rfl (lv_at hl 0 rfl) ?_
        refine va_get (ci := 8) (v := .int (gMo_22 0 18)) (C := R_Mo) (T := F_Mo) (N := 31) hx hb hts i_Mo hown hK hP 0 rfl rfl 18 (by decide) (hts _ m_722) (fun _ h9 => h9) rfl d_Mo_match_25 ?_
        refine lv_icmp_ge (tgt := 112) hx hb d_Mo_match_28 (by decide) (fun c_8 => ?_) (fun c_8 => ?_)
        · rw [if_pos c_8] at h
          exact K112 v1_22 v2_22 v4_22 gMo_22 H locs ls hP hD hS (lv_sub hl [0, 1, 2, 3] rfl) h
        · rw [if_neg c_8] at h
          refine lv_aload_n hx hb d_Mo_match_31 rfl (lv_at hl 0 rfl) ?_
          refine va_get (ci := 8) (v := .ref (xMo 12)) (C := R_Mo) (T := F_Mo) (N := 31) hx hb hts i_Mo hown hK hP 0 rfl rfl 19 (by decide) (hts _ m_723) (fun _ h9 => h9) rfl d_Mo_match_32 ?_
          refine lv_iconst (v := 3) hx hb d_Mo_match_35 (by decide) ?_
          refine lv_iload hx hb d_Mo_match_36 (lv_at hl 3 rfl) ?_
          refine lv_imul hx hb d_Mo_match_38 ?_
          obtain ⟨hi_9, h⟩ := gb_i h
          refine va_iald hx hb hK hP 12 0 rfl rfl (inb_in hi_9) d_Mo_match_39 ?_
          obtain ⟨x_10, ex_10, h⟩ := letb_i h
          refine lv_topn ex_10 ?_
          refine lv_i2l (v := (x_10 : Int32).toInt64) hx hb d_Mo_match_40 rfl ?_
          refine lv_aload_n hx hb d_Mo_match_41 rfl (lv_at hl 0 rfl) ?_
          refine va_get (ci := 8) (v := .ref (xMo 12)) (C := R_Mo) (T := F_Mo) (N := 31) hx hb hts i_Mo hown hK hP 0 rfl rfl 19 (by decide) (hts _ m_723) (fun _ h9 => h9) rfl d_Mo_match_42 ?_
          refine lv_iconst (v := 3) hx hb d_Mo_match_45 (by decide) ?_
          refine lv_iload hx hb d_Mo_match_46 (lv_at hl 3 rfl) ?_
          refine lv_imul hx hb d_Mo_match_48 ?_
          refine lv_iconst (v := 1) hx hb d_Mo_match_49 (by decide) ?_
          refine lv_iadd hx hb d_Mo_match_50 ?_
          obtain ⟨hi_11, h⟩ := gb_i h
          refine va_iald hx hb hK hP 12 0 rfl rfl (inb_in hi_11) d_Mo_match_51 ?_
          obtain ⟨x_12, ex_12, h⟩ := letb_i h
          refine lv_topn ex_12 ?_
          refine lv_i2l (v := (x_12 : Int32).toInt64) hx hb d_Mo_match_52 rfl ?_
          refine lv_lmul hx hb d_Mo_match_53 ?_
          refine lv_aload_n hx hb d_Mo_match_54 rfl (lv_at hl 0 rfl) ?_
          refine va_get (ci := 8) (v := .ref (xMo 12)) (C := R_Mo) (T := F_Mo) (N := 31) hx hb hts i_Mo hown hK hP 0 rfl rfl 19 (by decide) (hts _ m_723) (fun _ h9 => h9) rfl d_Mo_match_55 ?_
          refine lv_iconst (v := 3) hx hb d_Mo_match_58 (by decide) ?_
          refine lv_iload hx hb d_Mo_match_59 (lv_at hl 3 rfl) ?_
          refine lv_imul hx hb d_Mo_match_61 ?_
          refine lv_iconst (v := 2) hx hb d_Mo_match_62 (by decide) ?_
          refine lv_iadd hx hb d_Mo_match_63 ?_
          obtain ⟨hi_13, h⟩ := gb_i h
          refine va_iald hx hb hK hP 12 0 rfl rfl (inb_in hi_13) d_Mo_match_64 ?_
          obtain ⟨x_14, ex_14, h⟩ := letb_i h
          refine lv_topn ex_14 ?_
          refine lv_i2l (v := (x_14 : Int32).toInt64) hx hb d_Mo_match_65 rfl ?_
          refine lv_lmul hx hb d_Mo_match_66 ?_
          obtain ⟨x_15, ex_15, h⟩ := letb_i h
          refine lv_topnl ex_15 ?_
          refine lv_lstore (lv' := [(5, .long x_15), (0, .ref (xMo 0)), (1, .int v1_22), (2, .long v2_22), (4, .int v4_22)]) hx hb d_Mo_match_67 hl (by decide) rfl (fun ls hl => ?_)
          refine lv_aload_n hx hb d_Mo_match_69 rfl (lv_at hl 1 rfl) ?_
          refine va_get (ci := 8) (v := .ref (xMo 13)) (C := R_Mo) (T := F_Mo) (N := 31) hx hb hts i_Mo hown hK hP 0 rfl rfl 20 (by decide) (hts _ m_724) (fun _ h9 => h9) rfl d_Mo_match_70 ?_
          refine lv_iload hx hb d_Mo_match_73 (lv_at hl 4 rfl) ?_
          obtain ⟨hi_16, h⟩ := gb_i h
          refine va_zald hx hb hK hP 13 1 rfl rfl (inb_in hi_16) d_Mo_match_75 ?_
          obtain ⟨x_17, ex_17, h⟩ := letb_i h
          refine lv_topn ex_17 ?_
          have K106 : ∀ (v1_106 : Int32) (v2_106 : Int64) (v4_106 : Int32) (v5_106 : Int64) (gMo_106 : St) (H : Heap) (locs : List Loc) (ls : Array Slot), va_P D vwCl (wMo xMo cI cZ gMo_106) H → va_D A (wMo xMo cI cZ gMo_106) → va_S A s.heap H locs → lv_has ls 7 [(0, .ref (xMo 0)), (1, .int v1_106), (2, .long v2_106), (4, .int v4_106), (5, .long v5_106)] → f_Mo_match_J106 kc_22 v1_106 v2_106 v4_106 v5_106 gMo_106 = some (r, gMo1) → W p l e rm_Mo_match_r s m args below meth c H locs 0 0 Q (F0 m 106 ls []) := by
            intro v1_106 v2_106 v4_106 v5_106 gMo_106 H locs ls hP hD hS hl h
            unfold f_Mo_match_J106 at h
            obtain ⟨x_18, ex_18, h⟩ := letb_i h
            refine lv_iinc (v := x_18) (lv' := [(4, .int x_18), (0, .ref (xMo 0)), (1, .int v1_106), (2, .long v2_106), (5, .long v5_106)]) hx hb d_Mo_match_106 hl (k := 3) rfl (by rw [ex_18]; rfl) (by decide) rfl (fun ls hl => ?_)
            refine lv_goto (tgt := 22) hx hb d_Mo_match_109 (by decide) ?_
            exact ih v1_106 v2_106 x_18 gMo_106 H locs ls hP hD hS (lv_sub hl [1, 2, 3, 0] rfl) h
          refine lv_if_ne (tgt := 106) hx hb d_Mo_match_76 (by decide) (fun c_19 => ?_) (fun c_19 => ?_)
          · rw [if_neg c_19] at h
            exact K106 v1_22 v2_22 v4_22 x_15 gMo_22 H locs ls hP hD hS (lv_sub hl [1, 2, 3, 4, 0] rfl) h
          · rw [if_pos c_19] at h
            refine lv_aload_n hx hb d_Mo_match_79 rfl (lv_at hl 1 rfl) ?_
            refine lv_iload hx hb d_Mo_match_80 (lv_at hl 4 rfl) ?_
            obtain ⟨r_20, hc_21, h⟩ := xv1_i h
            refine cVi (ws' := (wMo xMo cI cZ gMo_22)) (As := [.int v4_22]) (rest := []) C0 hP hD hS hl.1 [0, 1, 2, 3, 4, 5, 6, 7, 8, 9, 10, 11, 12, 13, 14, 15] (c_Mo_hasRoom_r l D cI cZ cJ xMo H.size gMo_22 v4_22 r_20 hc_21) k_Mo_hasRoom m_893 rfl rfl rfl rfl rfl (rp_same rfl) ⟨by decide, by decide⟩ ⟨rfl, rfl⟩ rfl (Nat.le_of_ble_eq_true rfl) d_Mo_match_82 ⟨Nat.zero_le _, Nat.zero_le _⟩ (fun H locs hP hD hS => ?_)
            refine lv_if_eq (tgt := 106) hx hb d_Mo_match_85 (by decide) (fun c_22 => ?_) (fun c_22 => ?_)
            · rw [if_pos c_22] at h
              exact K106 v1_22 v2_22 v4_22 x_15 gMo_22 H locs ls hP hD hS (lv_sub hl [1, 2, 3, 4, 0] rfl) h
            · rw [if_neg c_22] at h
              refine lv_iload_n hx hb d_Mo_match_88 rfl (lv_at hl 2 rfl) ?_
              refine lv_iconst (v := (-1)) hx hb d_Mo_match_89 (by decide) ?_
              have K100 : ∀ (v1_100 : Int32) (v2_100 : Int64) (v4_100 : Int32) (v5_100 : Int64) (gMo_100 : St) (H : Heap) (locs : List Loc) (ls : Array Slot), va_P D vwCl (wMo xMo cI cZ gMo_100) H → va_D A (wMo xMo cI cZ gMo_100) → va_S A s.heap H locs → lv_has ls 7 [(0, .ref (xMo 0)), (1, .int v1_100), (2, .long v2_100), (4, .int v4_100), (5, .long v5_100)] → f_Mo_match_J100 kc_22 v1_100 v2_100 v4_100 v5_100 gMo_100 = some (r, gMo1) → W p l e rm_Mo_match_r s m args below meth c H locs 0 0 Q (F0 m 100 ls []) := by
                intro v1_100 v2_100 v4_100 v5_100 gMo_100 H locs ls hP hD hS hl h
                unfold f_Mo_match_J100 at h
                refine lv_iload hx hb d_Mo_match_100 (lv_at hl 3 rfl) ?_
                refine lv_istore_n (lv' := [(1, .int v4_100), (0, .ref (xMo 0)), (2, .long v2_100), (4, .int v4_100), (5, .long v5_100)]) hx hb d_Mo_match_102 rfl hl (by decide) rfl (fun ls hl => ?_)
                refine lv_lload hx hb d_Mo_match_103 (lv_at hl 4 rfl) ?_
                refine lv_lstore_n (lv' := [(2, .long v5_100), (1, .int v4_100), (0, .ref (xMo 0)), (4, .int v4_100), (5, .long v5_100)]) hx hb d_Mo_match_105 rfl hl (by decide) rfl (fun ls hl => ?_)
                exact K106 v4_100 v5_100 v4_100 v5_100 gMo_100 H locs ls hP hD hS (lv_sub hl [2, 1, 0, 3, 4] rfl) h
              refine lv_icmp_eq (tgt := 100) hx hb d_Mo_match_90 (by decide) (fun c_23 => ?_) (fun c_23 => ?_)
              · rw [if_pos c_23] at h
                exact K100 v1_22 v2_22 v4_22 x_15 gMo_22 H locs ls hP hD hS (lv_sub hl [1, 2, 3, 4, 0] rfl) h
              · rw [if_neg c_23] at h
                refine lv_lload hx hb d_Mo_match_93 (lv_at hl 0 rfl) ?_
                refine lv_lload_n hx hb d_Mo_match_95 rfl (lv_at hl 3 rfl) ?_
                refine W.lcmp hx hb d_Mo_match_96 ?_
                refine lv_if_ge (tgt := 106) hx hb d_Mo_match_97 (by decide) (fun c_24 => ?_) (fun c_24 => ?_)
                · rw [if_pos c_24] at h
                  exact K106 v1_22 v2_22 v4_22 x_15 gMo_22 H locs ls hP hD hS (lv_sub hl [1, 2, 3, 4, 0] rfl) h
                · rw [if_neg c_24] at h
                  exact K100 v1_22 v2_22 v4_22 x_15 gMo_22 H locs ls hP hD hS (lv_sub hl [1, 2, 3, 4, 0] rfl) h
    exact K22 FU (-1) 0 0 gMo_2 H locs ls hP hD hS (lv_sub hl [3, 2, 1, 0] rfl) h
  · rw [if_pos c_4] at h
    refine lv_iconst (v := 0) hx hb d_Mo_match_13 (by decide) ?_
    cases h
    rw [hQ]
    exact mi_ret C0 hr rfl hlk hP hD hS d_Mo_match_14
abbrev rm_Mo_free_r : Room := { frames := 1, cells := 0, slots := 0, locals := 23 }
set_option maxRecDepth 100000 in
set_option maxHeartbeats 4000000 in
theorem c_Mo_free_r (l : Launch) (D : va_G) (cI cZ cJ : ClassId) (xMo : Nat → Nat) (sz : Nat) (gMo : St) (p1 : Int32) (r : Int32) (gMo1 : St) (h : f_Mo_free gMo p1 = some (r, gMo1)) : MI l y_Mo_free b_Mo_free 3 (some .boolean) rm_Mo_free_r D (TYS cI cZ cJ) [.ref (xMo 0), .int p1] (wMo xMo cI cZ gMo) sz r (wMo xMo cI cZ gMo1) := by
  refine mi_start (own := R_Mo) (by decide +kernel) rfl (Nat.le_of_ble_eq_true rfl) (fun p e s m args below meth c A ls C0 hr hlk hP hD hS hl => ?_)
  obtain ⟨Q, hQ⟩ : ∃ Q, Q = QI below D (TYS cI cZ cJ) A (wMo xMo cI cZ gMo1) r args s := ⟨_, rfl⟩
  rw [← hQ]
  obtain ⟨hx, hb, -, hown, hts, hK, hE, -⟩ := id C0
  have hl : lv_has ls 3 [(0, .ref (xMo 0)), (1, .int p1)] := hl
  obtain ⟨H, hH⟩ : ∃ H, H = s.heap := ⟨_, rfl⟩
  have hP : va_P D vwCl (wMo xMo cI cZ gMo) H := by rw [hH]; exact hP
  have hS : va_S A s.heap H [] := by rw [hH]; exact hS
  rw [show W p l e rm_Mo_free_r s m args below meth c s.heap = W p l e rm_Mo_free_r s m args below meth c H by rw [hH]]
  generalize ([] : List Loc) = locs at hS ⊢
  unfold f_Mo_free at h
  refine lv_aload_n hx hb d_Mo_free_0 rfl (lv_at hl 0 rfl) ?_
  refine lv_iload_n hx hb d_Mo_free_1 rfl (lv_at hl 1 rfl) ?_
  have K18 : ∀ (s1_18 : Int32) (H : Heap) (locs : List Loc) (ls : Array Slot), va_P D vwCl (wMo xMo cI cZ gMo) H → va_D A (wMo xMo cI cZ gMo) → va_S A s.heap H locs → lv_has ls 3 [(0, .ref (xMo 0)), (1, .int p1)] → f_Mo_free_J18 gMo p1 s1_18 = some (r, gMo1) → W p l e rm_Mo_free_r s m args below meth c H locs 0 0 Q (F0 m 18 ls [.int s1_18, .ref (xMo 0)]) := by
    intro s1_18 H locs ls hP hD hS hl h
    unfold f_Mo_free_J18 at h
    refine lv_iconst (v := 1) hx hb d_Mo_free_18 (by decide) ?_
    refine lv_iconst (v := 1) hx hb d_Mo_free_19 (by decide) ?_
    obtain ⟨r_1, gMo_2, hc_3, h⟩ := xv2_i h
    refine cVi (ws' := (wMo xMo cI cZ gMo_2)) (As := [.int s1_18, .int 1, .int 1]) (rest := []) C0 hP hD hS hl.1 [0, 1, 2, 3, 4, 5, 6, 7, 8, 9, 10, 11, 12, 13, 14, 15] (c_Mo_goes_r l D cI cZ cJ xMo H.size gMo s1_18 1 1 r_1 gMo_2 hc_3) k_Mo_goes m_810 rfl rfl rfl rfl rfl (rp_all rfl rfl) ⟨by decide, by decide⟩ ⟨rfl, rfl⟩ rfl (Nat.le_of_ble_eq_true rfl) d_Mo_free_20 ⟨Nat.zero_le _, Nat.zero_le _⟩ (fun H locs hP hD hS => ?_)
    refine lv_if_ne (tgt := 28) hx hb d_Mo_free_23 (by decide) (fun c_4 => ?_) (fun c_4 => ?_)
    · rw [if_neg c_4] at h
      refine lv_aload_n hx hb d_Mo_free_28 rfl (lv_at hl 0 rfl) ?_
      refine va_get (ci := 8) (v := .ref (xMo 13)) (C := R_Mo) (T := F_Mo) (N := 31) hx hb hts i_Mo hown hK hP 0 rfl rfl 20 (by decide) (hts _ m_724) (fun _ h9 => h9) rfl d_Mo_free_29 ?_
      refine lv_iload_n hx hb d_Mo_free_32 rfl (lv_at hl 1 rfl) ?_
      obtain ⟨hi_5, h⟩ := gb_i h
      refine va_zald hx hb hK hP 13 1 rfl rfl (inb_in hi_5) d_Mo_free_33 ?_
      obtain ⟨x_6, ex_6, h⟩ := letb_i h
      refine lv_topn ex_6 ?_
      refine lv_istore_n (lv' := [(2, .int x_6), (0, .ref (xMo 0)), (1, .int p1)]) hx hb d_Mo_free_34 rfl hl (by decide) rfl (fun ls hl => ?_)
      refine lv_aload_n hx hb d_Mo_free_35 rfl (lv_at hl 1 rfl) ?_
      refine va_get (ci := 8) (v := .ref (xMo 13)) (C := R_Mo) (T := F_Mo) (N := 31) hx hb hts i_Mo hown hK hP 0 rfl rfl 20 (by decide) (hts _ m_724) (fun _ h9 => h9) rfl d_Mo_free_36 ?_
      refine lv_iload_n hx hb d_Mo_free_39 rfl (lv_at hl 2 rfl) ?_
      refine lv_iconst (v := 0) hx hb d_Mo_free_40 (by decide) ?_
      obtain ⟨hi_7, h⟩ := gb_i h
      refine va_zast hx hb hK hP hD hS 13 1 rfl rfl (inb_in hi_7) d_Mo_free_41 (fun H locs hP hD hS => ?_)
      obtain ⟨gMo_8, egMo_8, h⟩ := letb_i h
      have hP : va_P D vwCl (wMo xMo cI cZ gMo_8) H := by rw [egMo_8, u_Mo_13]; exact hP
      have hD : va_D A (wMo xMo cI cZ gMo_8) := by rw [egMo_8, u_Mo_13]; exact hD
      refine lv_iload_n hx hb d_Mo_free_42 rfl (lv_at hl 0 rfl) ?_
      obtain ⟨hz_9, h⟩ := gb_i h
      cases h
      rw [hQ]
      exact mi_ret C0 hr (isb_n hz_9) hlk hP hD hS d_Mo_free_43
    · rw [if_pos c_4] at h
      refine lv_iconst (v := 0) hx hb d_Mo_free_26 (by decide) ?_
      cases h
      rw [hQ]
      exact mi_ret C0 hr rfl hlk hP hD hS d_Mo_free_27
  have K17 : ∀ (H : Heap) (locs : List Loc) (ls : Array Slot), va_P D vwCl (wMo xMo cI cZ gMo) H → va_D A (wMo xMo cI cZ gMo) → va_S A s.heap H locs → lv_has ls 3 [(0, .ref (xMo 0)), (1, .int p1)] → f_Mo_free_J17 gMo p1 = some (r, gMo1) → W p l e rm_Mo_free_r s m args below meth c H locs 0 0 Q (F0 m 17 ls [.ref (xMo 0)]) := by
    intro  H locs ls hP hD hS hl h
    unfold f_Mo_free_J17 at h
    refine lv_iconst (v := 0) hx hb d_Mo_free_17 (by decide) ?_
    exact K18 0 H locs ls hP hD hS (lv_sub hl [0, 1] rfl) h
  refine lv_if_lt (tgt := 17) hx hb d_Mo_free_2 (by decide) (fun c_10 => ?_) (fun c_10 => ?_)
  · rw [if_pos c_10] at h
    exact K17  H locs ls hP hD hS (lv_sub hl [0, 1] rfl) h
  · rw [if_neg c_10] at h
    refine lv_iload_n hx hb d_Mo_free_5 rfl (lv_at hl 1 rfl) ?_
    refine lv_aload_n hx hb d_Mo_free_6 rfl (lv_at hl 0 rfl) ?_
    refine va_get (ci := 8) (v := .int (gMo 0 18)) (C := R_Mo) (T := F_Mo) (N := 31) hx hb hts i_Mo hown hK hP 0 rfl rfl 18 (by decide) (hts _ m_722) (fun _ h9 => h9) rfl d_Mo_free_7 ?_
    refine lv_icmp_ge (tgt := 17) hx hb d_Mo_free_10 (by decide) (fun c_11 => ?_) (fun c_11 => ?_)
    · rw [if_pos c_11] at h
      exact K17  H locs ls hP hD hS (lv_sub hl [0, 1] rfl) h
    · rw [if_neg c_11] at h
      refine lv_iconst (v := 1) hx hb d_Mo_free_13 (by decide) ?_
      refine lv_goto (tgt := 18) hx hb d_Mo_free_14 (by decide) ?_
      exact K18 1 H locs ls hP hD hS (lv_sub hl [0, 1] rfl) h
abbrev rm_Mo_weight_r : Room := { frames := 1, cells := 0, slots := 0, locals := 21 }
set_option maxRecDepth 100000 in
set_option maxHeartbeats 4000000 in
theorem c_Mo_weight_r (l : Launch) (D : va_G) (cI cZ cJ : ClassId) (xMo : Nat → Nat) (sz : Nat) (gMo : St) (p1 : Int32) (r : Int32) (h : f_Mo_weight gMo p1 = some r) : MI l y_Mo_weight b_Mo_weight 4 (some .int) rm_Mo_weight_r D (TYS cI cZ cJ) [.ref (xMo 0), .int p1] (wMo xMo cI cZ gMo) sz r (wMo xMo cI cZ gMo) := by
  refine mi_start (own := R_Mo) (by decide +kernel) rfl (Nat.le_of_ble_eq_true rfl) (fun p e s m args below meth c A ls C0 hr hlk hP hD hS hl => ?_)
  obtain ⟨Q, hQ⟩ : ∃ Q, Q = QI below D (TYS cI cZ cJ) A (wMo xMo cI cZ gMo) r args s := ⟨_, rfl⟩
  rw [← hQ]
  obtain ⟨hx, hb, -, hown, hts, hK, hE, -⟩ := id C0
  have hl : lv_has ls 4 [(0, .ref (xMo 0)), (1, .int p1)] := hl
  obtain ⟨H, hH⟩ : ∃ H, H = s.heap := ⟨_, rfl⟩
  have hP : va_P D vwCl (wMo xMo cI cZ gMo) H := by rw [hH]; exact hP
  have hS : va_S A s.heap H [] := by rw [hH]; exact hS
  rw [show W p l e rm_Mo_weight_r s m args below meth c s.heap = W p l e rm_Mo_weight_r s m args below meth c H by rw [hH]]
  generalize ([] : List Loc) = locs at hS ⊢
  unfold f_Mo_weight at h
  refine lv_iconst (v := 0) hx hb d_Mo_weight_0 (by decide) ?_
  refine lv_istore_n (lv' := [(2, .int 0), (0, .ref (xMo 0)), (1, .int p1)]) hx hb d_Mo_weight_1 rfl hl (by decide) rfl (fun ls hl => ?_)
  refine lv_iconst (v := 0) hx hb d_Mo_weight_2 (by decide) ?_
  refine lv_istore_n (lv' := [(3, .int 0), (2, .int 0), (0, .ref (xMo 0)), (1, .int p1)]) hx hb d_Mo_weight_3 rfl hl (by decide) rfl (fun ls hl => ?_)
  have K39 : ∀ (v2_39 : Int32) (v3_39 : Int32) (H : Heap) (locs : List Loc) (ls : Array Slot), va_P D vwCl (wMo xMo cI cZ gMo) H → va_D A (wMo xMo cI cZ gMo) → va_S A s.heap H locs → lv_has ls 4 [(0, .ref (xMo 0)), (1, .int p1), (2, .int v2_39), (3, .int v3_39)] → f_Mo_weight_X39 v2_39 v3_39 = some r → W p l e rm_Mo_weight_r s m args below meth c H locs 0 0 Q (F0 m 39 ls []) := by
    intro v2_39 v3_39 H locs ls hP hD hS hl h
    unfold f_Mo_weight_X39 at h
    refine lv_iload_n hx hb d_Mo_weight_39 rfl (lv_at hl 2 rfl) ?_
    cases h
    rw [hQ]
    exact mi_ret C0 hr rfl hlk hP hD hS d_Mo_weight_40
  have K4 : ∀ (n : Nat) (v2_4 : Int32) (v3_4 : Int32) (H : Heap) (locs : List Loc) (ls : Array Slot), va_P D vwCl (wMo xMo cI cZ gMo) H → va_D A (wMo xMo cI cZ gMo) → va_S A s.heap H locs → lv_has ls 4 [(0, .ref (xMo 0)), (1, .int p1), (2, .int v2_4), (3, .int v3_4)] → it2 (f_Mo_weight_L4 gMo p1) n v2_4 v3_4 = some r → W p l e rm_Mo_weight_r s m args below meth c H locs 0 0 Q (F0 m 4 ls []) := by
    intro n
    induction n with
    | zero => intro v2_4 v3_4 H locs ls hP hD hS hl h; exact (it2_0 h).elim
    | succ n ih =>
      intro v2_4 v3_4 H locs ls hP hD hS hl h
      rw [it2_s, f_Mo_weight_L4] at h
      generalize it2 (f_Mo_weight_L4 gMo p1) n = kc_4 at h ih
      refine lv_iload_n hx hb d_Mo_weight_4 rfl (lv_at hl 3 rfl) ?_
      refine lv_aload_n hx hb d_Mo_weight_5 rfl (lv_at hl 0 rfl) ?_
      refine va_get (ci := 8) (v := .int (gMo 0 1)) (C := R_Mo) (T := F_Mo) (N := 31) hx hb hts i_Mo hown hK hP 0 rfl rfl 1 (by decide) (hts _ m_705) (fun _ h9 => h9) rfl d_Mo_weight_6 ?_
      refine lv_icmp_ge (tgt := 39) hx hb d_Mo_weight_9 (by decide) (fun c_1 => ?_) (fun c_1 => ?_)
      · rw [if_pos c_1] at h
        exact K39 v2_4 v3_4 H locs ls hP hD hS (lv_sub hl [0, 1, 2, 3] rfl) h
      · rw [if_neg c_1] at h
        refine lv_iload_n hx hb d_Mo_weight_12 rfl (lv_at hl 1 rfl) ?_
        refine lv_iload_n hx hb d_Mo_weight_13 rfl (lv_at hl 3 rfl) ?_
        obtain ⟨r_2, hc_3, h⟩ := xv1_i h
        refine cSi (ws' := (wMo xMo cI cZ gMo)) (As := [.int p1, .int v3_4]) (rest := []) C0 hP hD hS hl.1 [] (c_Mo_isIn_r l D cI cZ cJ  H.size p1 v3_4 r_2 hc_3) k_Mo_isIn m_853 rfl rfl rfl (rp_same rfl) ⟨by decide, by decide⟩ ⟨rfl, rfl⟩ rfl (Nat.le_of_ble_eq_true rfl) d_Mo_weight_14 ⟨Nat.zero_le _, Nat.zero_le _⟩ (fun H locs hP hD hS => ?_)
        have K32 : ∀ (s0_32 : Int32) (v2_32 : Int32) (v3_32 : Int32) (H : Heap) (locs : List Loc) (ls : Array Slot), va_P D vwCl (wMo xMo cI cZ gMo) H → va_D A (wMo xMo cI cZ gMo) → va_S A s.heap H locs → lv_has ls 4 [(0, .ref (xMo 0)), (1, .int p1), (2, .int v2_32), (3, .int v3_32)] → f_Mo_weight_J32 kc_4 s0_32 v2_32 v3_32 = some r → W p l e rm_Mo_weight_r s m args below meth c H locs 0 0 Q (F0 m 32 ls [.int s0_32]) := by
          intro s0_32 v2_32 v3_32 H locs ls hP hD hS hl h
          unfold f_Mo_weight_J32 at h
          refine lv_istore_n (lv' := [(2, .int s0_32), (0, .ref (xMo 0)), (1, .int p1), (3, .int v3_32)]) hx hb d_Mo_weight_32 rfl hl (by decide) rfl (fun ls hl => ?_)
          obtain ⟨x_4, ex_4, h⟩ := letb_i h
          refine lv_iinc (v := x_4) (lv' := [(3, .int x_4), (2, .int s0_32), (0, .ref (xMo 0)), (1, .int p1)]) hx hb d_Mo_weight_33 hl (k := 3) rfl (by rw [ex_4]; rfl) (by decide) rfl (fun ls hl => ?_)
          refine lv_goto (tgt := 4) hx hb d_Mo_weight_36 (by decide) ?_
          exact ih s0_32 x_4 H locs ls hP hD hS (lv_sub hl [2, 3, 1, 0] rfl) h
        refine lv_if_eq (tgt := 31) hx hb d_Mo_weight_17 (by decide) (fun c_5 => ?_) (fun c_5 => ?_)
        · rw [if_pos c_5] at h
          refine lv_iload_n hx hb d_Mo_weight_31 rfl (lv_at hl 2 rfl) ?_
          exact K32 v2_4 v2_4 v3_4 H locs ls hP hD hS (lv_sub hl [0, 1, 2, 3] rfl) h
        · rw [if_neg c_5] at h
          refine lv_iload_n hx hb d_Mo_weight_20 rfl (lv_at hl 2 rfl) ?_
          refine lv_aload_n hx hb d_Mo_weight_21 rfl (lv_at hl 0 rfl) ?_
          refine va_get (ci := 8) (v := .ref (xMo 2)) (C := R_Mo) (T := F_Mo) (N := 31) hx hb hts i_Mo hown hK hP 0 rfl rfl 3 (by decide) (hts _ m_707) (fun _ h9 => h9) rfl d_Mo_weight_22 ?_
          refine lv_iload_n hx hb d_Mo_weight_25 rfl (lv_at hl 3 rfl) ?_
          obtain ⟨hi_6, h⟩ := gb_i h
          refine va_iald hx hb hK hP 2 0 rfl rfl (inb_in hi_6) d_Mo_weight_26 ?_
          obtain ⟨x_7, ex_7, h⟩ := letb_i h
          refine lv_topn ex_7 ?_
          refine lv_iadd hx hb d_Mo_weight_27 ?_
          refine lv_goto (tgt := 32) hx hb d_Mo_weight_28 (by decide) ?_
          exact K32 (v2_4 + x_7) v2_4 v3_4 H locs ls hP hD hS (lv_sub hl [0, 1, 2, 3] rfl) h
  exact K4 FU 0 0 H locs ls hP hD hS (lv_sub hl [2, 3, 1, 0] rfl) h
abbrev rm_Mo_split_r : Room := { frames := 2, cells := 0, slots := 0, locals := 44 }
set_option maxRecDepth 100000 in
set_option maxHeartbeats 4000000 in
theorem c_Mo_split_r (l : Launch) (D : va_G) (cI cZ cJ : ClassId) (xMo : Nat → Nat) (sz : Nat) (gMo : St) (p1 : Int32) (r : Int32) (gMo1 : St) (h : f_Mo_split gMo p1 = some (r, gMo1)) : MI l y_Mo_split b_Mo_split 6 (some .int) rm_Mo_split_r D (TYS cI cZ cJ) [.ref (xMo 0), .int p1] (wMo xMo cI cZ gMo) sz r (wMo xMo cI cZ gMo1) := by
  refine mi_start (own := R_Mo) (by decide +kernel) rfl (Nat.le_of_ble_eq_true rfl) (fun p e s m args below meth c A ls C0 hr hlk hP hD hS hl => ?_)
  obtain ⟨Q, hQ⟩ : ∃ Q, Q = QI below D (TYS cI cZ cJ) A (wMo xMo cI cZ gMo1) r args s := ⟨_, rfl⟩
  rw [← hQ]
  obtain ⟨hx, hb, -, hown, hts, hK, hE, -⟩ := id C0
  have hl : lv_has ls 6 [(0, .ref (xMo 0)), (1, .int p1)] := hl
  obtain ⟨H, hH⟩ : ∃ H, H = s.heap := ⟨_, rfl⟩
  have hP : va_P D vwCl (wMo xMo cI cZ gMo) H := by rw [hH]; exact hP
  have hS : va_S A s.heap H [] := by rw [hH]; exact hS
  rw [show W p l e rm_Mo_split_r s m args below meth c s.heap = W p l e rm_Mo_split_r s m args below meth c H by rw [hH]]
  generalize ([] : List Loc) = locs at hS ⊢
  unfold f_Mo_split at h
  refine lv_aload_n hx hb d_Mo_split_0 rfl (lv_at hl 0 rfl) ?_
  refine lv_iload_n hx hb d_Mo_split_1 rfl (lv_at hl 1 rfl) ?_
  refine lv_iconst (v := 1) hx hb d_Mo_split_2 (by decide) ?_
  have K11 : ∀ (s1_11 : Int32) (H : Heap) (locs : List Loc) (ls : Array Slot), va_P D vwCl (wMo xMo cI cZ gMo) H → va_D A (wMo xMo cI cZ gMo) → va_S A s.heap H locs → lv_has ls 6 [(0, .ref (xMo 0)), (1, .int p1)] → f_Mo_split_J11 gMo p1 s1_11 = some (r, gMo1) → W p l e rm_Mo_split_r s m args below meth c H locs 0 0 Q (F0 m 11 ls [.int s1_11, .ref (xMo 0)]) := by
    intro s1_11 H locs ls hP hD hS hl h
    unfold f_Mo_split_J11 at h
    refine lv_iconst (v := 1) hx hb d_Mo_split_11 (by decide) ?_
    refine lv_iconst (v := 1) hx hb d_Mo_split_12 (by decide) ?_
    obtain ⟨r_1, gMo_2, hc_3, h⟩ := xv2_i h
    refine cVi (ws' := (wMo xMo cI cZ gMo_2)) (As := [.int s1_11, .int 1, .int 1]) (rest := []) C0 hP hD hS hl.1 [0, 1, 2, 3, 4, 5, 6, 7, 8, 9, 10, 11, 12, 13, 14, 15] (c_Mo_goes_r l D cI cZ cJ xMo H.size gMo s1_11 1 1 r_1 gMo_2 hc_3) k_Mo_goes m_810 rfl rfl rfl rfl rfl (rp_all rfl rfl) ⟨by decide, by decide⟩ ⟨rfl, rfl⟩ rfl (Nat.le_of_ble_eq_true rfl) d_Mo_split_13 ⟨Nat.zero_le _, Nat.zero_le _⟩ (fun H locs hP hD hS => ?_)
    refine lv_if_ne (tgt := 21) hx hb d_Mo_split_16 (by decide) (fun c_4 => ?_) (fun c_4 => ?_)
    · rw [if_neg c_4] at h
      refine lv_iconst (v := 1) hx hb d_Mo_split_21 (by decide) ?_
      refine lv_aload_n hx hb d_Mo_split_22 rfl (lv_at hl 0 rfl) ?_
      refine va_get (ci := 8) (v := .int (gMo_2 0 1)) (C := R_Mo) (T := F_Mo) (N := 31) hx hb hts i_Mo hown hK hP 0 rfl rfl 1 (by decide) (hts _ m_705) (fun _ h9 => h9) rfl d_Mo_split_23 ?_
      refine lv_ishl hx hb d_Mo_split_26 ?_
      obtain ⟨x_5, ex_5, h⟩ := letb_i h
      refine lv_topn ex_5 ?_
      refine lv_istore_n (lv' := [(2, .int x_5), (0, .ref (xMo 0)), (1, .int p1)]) hx hb d_Mo_split_27 rfl hl (by decide) rfl (fun ls hl => ?_)
      refine lv_iconst (v := 0) hx hb d_Mo_split_28 (by decide) ?_
      refine lv_istore_n (lv' := [(3, .int 0), (2, .int x_5), (0, .ref (xMo 0)), (1, .int p1)]) hx hb d_Mo_split_29 rfl hl (by decide) rfl (fun ls hl => ?_)
      have K149 : ∀ (v2_149 : Int32) (v3_149 : Int32) (gMo_149 : St) (H : Heap) (locs : List Loc) (ls : Array Slot), va_P D vwCl (wMo xMo cI cZ gMo_149) H → va_D A (wMo xMo cI cZ gMo_149) → va_S A s.heap H locs → lv_has ls 6 [(0, .ref (xMo 0)), (1, .int p1), (2, .int v2_149), (3, .int v3_149)] → f_Mo_split_X149 v2_149 v3_149 gMo_149 = some (r, gMo1) → W p l e rm_Mo_split_r s m args below meth c H locs 0 0 Q (F0 m 149 ls []) := by
        intro v2_149 v3_149 gMo_149 H locs ls hP hD hS hl h
        unfold f_Mo_split_X149 at h
        refine lv_aload_n hx hb d_Mo_split_149 rfl (lv_at hl 0 rfl) ?_
        refine va_get (ci := 8) (v := .ref (xMo 11)) (C := R_Mo) (T := F_Mo) (N := 31) hx hb hts i_Mo hown hK hP 0 rfl rfl 17 (by decide) (hts _ m_721) (fun _ h9 => h9) rfl d_Mo_split_150 ?_
        refine lv_iload_n hx hb d_Mo_split_153 rfl (lv_at hl 2 rfl) ?_
        refine lv_iconst (v := 1) hx hb d_Mo_split_154 (by decide) ?_
        refine lv_isub hx hb d_Mo_split_155 ?_
        obtain ⟨hi_6, h⟩ := gb_i h
        refine va_iald hx hb hK hP 11 0 rfl rfl (inb_in hi_6) d_Mo_split_156 ?_
        obtain ⟨x_7, ex_7, h⟩ := letb_i h
        refine lv_topn ex_7 ?_
        refine lv_bipush (v := 6) hx hb d_Mo_split_157 (by decide) ?_
        refine lv_icmp_le (tgt := 166) hx hb d_Mo_split_159 (by decide) (fun c_8 => ?_) (fun c_8 => ?_)
        · rw [if_pos c_8] at h
          refine lv_aload_n hx hb d_Mo_split_166 rfl (lv_at hl 0 rfl) ?_
          refine va_get (ci := 8) (v := .ref (xMo 11)) (C := R_Mo) (T := F_Mo) (N := 31) hx hb hts i_Mo hown hK hP 0 rfl rfl 17 (by decide) (hts _ m_721) (fun _ h9 => h9) rfl d_Mo_split_167 ?_
          refine lv_iload_n hx hb d_Mo_split_170 rfl (lv_at hl 2 rfl) ?_
          refine lv_iconst (v := 1) hx hb d_Mo_split_171 (by decide) ?_
          refine lv_isub hx hb d_Mo_split_172 ?_
          obtain ⟨hi_9, h⟩ := gb_i h
          refine va_iald hx hb hK hP 11 0 rfl rfl (inb_in hi_9) d_Mo_split_173 ?_
          obtain ⟨x_10, ex_10, h⟩ := letb_i h
          refine lv_topn ex_10 ?_
          cases h
          rw [hQ]
          exact mi_ret C0 hr rfl hlk hP hD hS d_Mo_split_174
        · rw [if_neg c_8] at h
          refine lv_iconst (v := (-1)) hx hb d_Mo_split_162 (by decide) ?_
          refine lv_goto (tgt := 174) hx hb d_Mo_split_163 (by decide) ?_
          cases h
          rw [hQ]
          exact mi_ret C0 hr rfl hlk hP hD hS d_Mo_split_174
      have K30 : ∀ (n : Nat) (v2_30 : Int32) (v3_30 : Int32) (gMo_30 : St) (H : Heap) (locs : List Loc) (ls : Array Slot), va_P D vwCl (wMo xMo cI cZ gMo_30) H → va_D A (wMo xMo cI cZ gMo_30) → va_S A s.heap H locs → lv_has ls 6 [(0, .ref (xMo 0)), (1, .int p1), (2, .int v2_30), (3, .int v3_30)] → it3 (f_Mo_split_L30 p1) n v2_30 v3_30 gMo_30 = some (r, gMo1) → W p l e rm_Mo_split_r s m args below meth c H locs 0 0 Q (F0 m 30 ls []) := by
        intro n
        induction n with
        | zero => intro v2_30 v3_30 gMo_30 H locs ls hP hD hS hl h; exact (it3_0 h).elim
        | succ n ih =>
          intro v2_30 v3_30 gMo_30 H locs ls hP hD hS hl h
          rw [it3_s, f_Mo_split_L30] at h
          generalize it3 (f_Mo_split_L30 p1) n = kc_30 at h ih
          refine lv_iload_n hx hb d_Mo_split_30 rfl (lv_at hl 3 rfl) ?_
          refine lv_iload_n hx hb d_Mo_split_31 rfl (lv_at hl 2 rfl) ?_
          refine lv_icmp_ge (tgt := 149) hx hb d_Mo_split_32 (by decide) (fun c_11 => ?_) (fun c_11 => ?_)
          · rw [if_pos c_11] at h
            exact K149 v2_30 v3_30 gMo_30 H locs ls hP hD hS (lv_sub hl [0, 1, 2, 3] rfl) h
          · rw [if_neg c_11] at h
            refine lv_aload_n hx hb d_Mo_split_35 rfl (lv_at hl 0 rfl) ?_
            refine va_get (ci := 8) (v := .ref (xMo 11)) (C := R_Mo) (T := F_Mo) (N := 31) hx hb hts i_Mo hown hK hP 0 rfl rfl 17 (by decide) (hts _ m_721) (fun _ h9 => h9) rfl d_Mo_split_36 ?_
            refine lv_iload_n hx hb d_Mo_split_39 rfl (lv_at hl 3 rfl) ?_
            refine lv_iload_n hx hb d_Mo_split_40 rfl (lv_at hl 3 rfl) ?_
            have K50 : ∀ (s1_50 : Int32) (s2_50 : Int32) (v2_50 : Int32) (v3_50 : Int32) (gMo_50 : St) (H : Heap) (locs : List Loc) (ls : Array Slot), va_P D vwCl (wMo xMo cI cZ gMo_50) H → va_D A (wMo xMo cI cZ gMo_50) → va_S A s.heap H locs → lv_has ls 6 [(0, .ref (xMo 0)), (1, .int p1), (2, .int v2_50), (3, .int v3_50)] → f_Mo_split_J50 p1 kc_30 s1_50 s2_50 v2_50 v3_50 gMo_50 = some (r, gMo1) → W p l e rm_Mo_split_r s m args below meth c H locs 0 0 Q (F0 m 50 ls [.int s2_50, .int s1_50, .ref (xMo 11)]) := by
              intro s1_50 s2_50 v2_50 v3_50 gMo_50 H locs ls hP hD hS hl h
              unfold f_Mo_split_J50 at h
              obtain ⟨hi_12, h⟩ := gb_i h
              refine va_iast hx hb hK hP hD hS 11 0 rfl rfl (inb_in hi_12) d_Mo_split_50 (fun H locs hP hD hS => ?_)
              obtain ⟨gMo_13, egMo_13, h⟩ := letb_i h
              have hP : va_P D vwCl (wMo xMo cI cZ gMo_13) H := by rw [egMo_13, u_Mo_11]; exact hP
              have hD : va_D A (wMo xMo cI cZ gMo_13) := by rw [egMo_13, u_Mo_11]; exact hD
              refine lv_iconst (v := 1) hx hb d_Mo_split_51 (by decide) ?_
              refine lv_istore (lv' := [(4, .int 1), (0, .ref (xMo 0)), (1, .int p1), (2, .int v2_50), (3, .int v3_50)]) hx hb d_Mo_split_52 hl (by decide) rfl (fun ls hl => ?_)
              have K143 : ∀ (v2_143 : Int32) (v3_143 : Int32) (v4_143 : Int32) (gMo_143 : St) (H : Heap) (locs : List Loc) (ls : Array Slot), va_P D vwCl (wMo xMo cI cZ gMo_143) H → va_D A (wMo xMo cI cZ gMo_143) → va_S A s.heap H locs → lv_has ls 6 [(0, .ref (xMo 0)), (1, .int p1), (2, .int v2_143), (3, .int v3_143), (4, .int v4_143)] → f_Mo_split_X143 kc_30 v2_143 v3_143 v4_143 gMo_143 = some (r, gMo1) → W p l e rm_Mo_split_r s m args below meth c H locs 0 0 Q (F0 m 143 ls []) := by
                intro v2_143 v3_143 v4_143 gMo_143 H locs ls hP hD hS hl h
                unfold f_Mo_split_X143 at h
                obtain ⟨x_14, ex_14, h⟩ := letb_i h
                refine lv_iinc (v := x_14) (lv' := [(3, .int x_14), (0, .ref (xMo 0)), (1, .int p1), (2, .int v2_143), (4, .int v4_143)]) hx hb d_Mo_split_143 hl (k := 3) rfl (by rw [ex_14]; rfl) (by decide) rfl (fun ls hl => ?_)
                refine lv_goto (tgt := 30) hx hb d_Mo_split_146 (by decide) ?_
                exact ih v2_143 x_14 gMo_143 H locs ls hP hD hS (lv_sub hl [1, 2, 3, 0] rfl) h
              have K54 : ∀ (n : Nat) (v2_54 : Int32) (v3_54 : Int32) (v4_54 : Int32) (gMo_54 : St) (H : Heap) (locs : List Loc) (ls : Array Slot), va_P D vwCl (wMo xMo cI cZ gMo_54) H → va_D A (wMo xMo cI cZ gMo_54) → va_S A s.heap H locs → lv_has ls 6 [(0, .ref (xMo 0)), (1, .int p1), (2, .int v2_54), (3, .int v3_54), (4, .int v4_54)] → it4 (f_Mo_split_L54 p1 kc_30) n v2_54 v3_54 v4_54 gMo_54 = some (r, gMo1) → W p l e rm_Mo_split_r s m args below meth c H locs 0 0 Q (F0 m 54 ls []) := by
                intro n
                induction n with
                | zero => intro v2_54 v3_54 v4_54 gMo_54 H locs ls hP hD hS hl h; exact (it4_0 h).elim
                | succ n ih =>
                  intro v2_54 v3_54 v4_54 gMo_54 H locs ls hP hD hS hl h
                  rw [it4_s, f_Mo_split_L54] at h
                  generalize it4 (f_Mo_split_L54 p1 kc_30) n = kc_54 at h ih
                  refine lv_iload hx hb d_Mo_split_54 (lv_at hl 4 rfl) ?_
                  refine lv_iload_n hx hb d_Mo_split_56 rfl (lv_at hl 3 rfl) ?_
                  refine lv_icmp_gt (tgt := 143) hx hb d_Mo_split_57 (by decide) (fun c_15 => ?_) (fun c_15 => ?_)
                  · rw [if_pos c_15] at h
                    exact K143 v2_54 v3_54 v4_54 gMo_54 H locs ls hP hD hS (lv_sub hl [0, 1, 2, 3, 4] rfl) h
                  · rw [if_neg c_15] at h
                    refine lv_iload hx hb d_Mo_split_60 (lv_at hl 4 rfl) ?_
                    refine lv_iload_n hx hb d_Mo_split_62 rfl (lv_at hl 3 rfl) ?_
                    refine lv_iand hx hb d_Mo_split_63 ?_
                    refine lv_iload hx hb d_Mo_split_64 (lv_at hl 4 rfl) ?_
                    have K84 : ∀ (s0_84 : Int32) (v2_84 : Int32) (v3_84 : Int32) (v4_84 : Int32) (gMo_84 : St) (H : Heap) (locs : List Loc) (ls : Array Slot), va_P D vwCl (wMo xMo cI cZ gMo_84) H → va_D A (wMo xMo cI cZ gMo_84) → va_S A s.heap H locs → lv_has ls 6 [(0, .ref (xMo 0)), (1, .int p1), (2, .int v2_84), (3, .int v3_84), (4, .int v4_84)] → f_Mo_split_J84 kc_54 s0_84 v2_84 v3_84 v4_84 gMo_84 = some (r, gMo1) → W p l e rm_Mo_split_r s m args below meth c H locs 0 0 Q (F0 m 84 ls [.int s0_84]) := by
                      intro s0_84 v2_84 v3_84 v4_84 gMo_84 H locs ls hP hD hS hl h
                      unfold f_Mo_split_J84 at h
                      refine lv_istore (lv' := [(5, .int s0_84), (0, .ref (xMo 0)), (1, .int p1), (2, .int v2_84), (3, .int v3_84), (4, .int v4_84)]) hx hb d_Mo_split_84 hl (by decide) rfl (fun ls hl => ?_)
                      refine lv_aload_n hx hb d_Mo_split_86 rfl (lv_at hl 1 rfl) ?_
                      refine va_get (ci := 8) (v := .ref (xMo 11)) (C := R_Mo) (T := F_Mo) (N := 31) hx hb hts i_Mo hown hK hP 0 rfl rfl 17 (by decide) (hts _ m_721) (fun _ h9 => h9) rfl d_Mo_split_87 ?_
                      refine lv_iload_n hx hb d_Mo_split_90 rfl (lv_at hl 4 rfl) ?_
                      refine lv_iload hx hb d_Mo_split_91 (lv_at hl 0 rfl) ?_
                      have K136 : ∀ (s1_136 : Int32) (s2_136 : Int32) (v2_136 : Int32) (v3_136 : Int32) (v4_136 : Int32) (v5_136 : Int32) (gMo_136 : St) (H : Heap) (locs : List Loc) (ls : Array Slot), va_P D vwCl (wMo xMo cI cZ gMo_136) H → va_D A (wMo xMo cI cZ gMo_136) → va_S A s.heap H locs → lv_has ls 6 [(0, .ref (xMo 0)), (1, .int p1), (2, .int v2_136), (3, .int v3_136), (4, .int v4_136), (5, .int v5_136)] → f_Mo_split_J136 kc_54 s1_136 s2_136 v2_136 v3_136 v4_136 v5_136 gMo_136 = some (r, gMo1) → W p l e rm_Mo_split_r s m args below meth c H locs 0 0 Q (F0 m 136 ls [.int s2_136, .int s1_136, .ref (xMo 11)]) := by
                        intro s1_136 s2_136 v2_136 v3_136 v4_136 v5_136 gMo_136 H locs ls hP hD hS hl h
                        unfold f_Mo_split_J136 at h
                        obtain ⟨hi_16, h⟩ := gb_i h
                        refine va_iast hx hb hK hP hD hS 11 0 rfl rfl (inb_in hi_16) d_Mo_split_136 (fun H locs hP hD hS => ?_)
                        obtain ⟨gMo_17, egMo_17, h⟩ := letb_i h
                        have hP : va_P D vwCl (wMo xMo cI cZ gMo_17) H := by rw [egMo_17, u_Mo_11]; exact hP
                        have hD : va_D A (wMo xMo cI cZ gMo_17) := by rw [egMo_17, u_Mo_11]; exact hD
                        obtain ⟨x_18, ex_18, h⟩ := letb_i h
                        refine lv_iinc (v := x_18) (lv' := [(4, .int x_18), (0, .ref (xMo 0)), (1, .int p1), (2, .int v2_136), (3, .int v3_136), (5, .int v5_136)]) hx hb d_Mo_split_137 hl (k := 4) rfl (by rw [ex_18]; rfl) (by decide) rfl (fun ls hl => ?_)
                        refine lv_goto (tgt := 54) hx hb d_Mo_split_140 (by decide) ?_
                        exact ih v2_136 v3_136 x_18 gMo_17 H locs ls hP hD hS (lv_sub hl [1, 2, 3, 4, 0] rfl) h
                      have K130 : ∀ (s1_130 : Int32) (v2_130 : Int32) (v3_130 : Int32) (v4_130 : Int32) (v5_130 : Int32) (gMo_130 : St) (H : Heap) (locs : List Loc) (ls : Array Slot), va_P D vwCl (wMo xMo cI cZ gMo_130) H → va_D A (wMo xMo cI cZ gMo_130) → va_S A s.heap H locs → lv_has ls 6 [(0, .ref (xMo 0)), (1, .int p1), (2, .int v2_130), (3, .int v3_130), (4, .int v4_130), (5, .int v5_130)] → f_Mo_split_J130 kc_54 s1_130 v2_130 v3_130 v4_130 v5_130 gMo_130 = some (r, gMo1) → W p l e rm_Mo_split_r s m args below meth c H locs 0 0 Q (F0 m 130 ls [.int s1_130, .ref (xMo 11)]) := by
                        intro s1_130 v2_130 v3_130 v4_130 v5_130 gMo_130 H locs ls hP hD hS hl h
                        unfold f_Mo_split_J130 at h
                        refine lv_aload_n hx hb d_Mo_split_130 rfl (lv_at hl 0 rfl) ?_
                        refine va_get (ci := 8) (v := .ref (xMo 11)) (C := R_Mo) (T := F_Mo) (N := 31) hx hb hts i_Mo hown hK hP 0 rfl rfl 17 (by decide) (hts _ m_721) (fun _ h9 => h9) rfl d_Mo_split_131 ?_
                        refine lv_iload_n hx hb d_Mo_split_134 rfl (lv_at hl 3 rfl) ?_
                        obtain ⟨hi_19, h⟩ := gb_i h
                        refine va_iald hx hb hK hP 11 0 rfl rfl (inb_in hi_19) d_Mo_split_135 ?_
                        obtain ⟨x_20, ex_20, h⟩ := letb_i h
                        refine lv_topn ex_20 ?_
                        exact K136 s1_130 x_20 v2_130 v3_130 v4_130 v5_130 gMo_130 H locs ls hP hD hS (lv_sub hl [0, 1, 2, 3, 4, 5] rfl) h
                      refine lv_if_eq (tgt := 130) hx hb d_Mo_split_93 (by decide) (fun c_21 => ?_) (fun c_21 => ?_)
                      · rw [if_pos c_21] at h
                        exact K130 v3_84 v2_84 v3_84 v4_84 s0_84 gMo_84 H locs ls hP hD hS (lv_sub hl [1, 2, 3, 4, 5, 0] rfl) h
                      · rw [if_neg c_21] at h
                        refine lv_aload_n hx hb d_Mo_split_96 rfl (lv_at hl 1 rfl) ?_
                        refine va_get (ci := 8) (v := .ref (xMo 11)) (C := R_Mo) (T := F_Mo) (N := 31) hx hb hts i_Mo hown hK hP 0 rfl rfl 17 (by decide) (hts _ m_721) (fun _ h9 => h9) rfl d_Mo_split_97 ?_
                        refine lv_iload_n hx hb d_Mo_split_100 rfl (lv_at hl 4 rfl) ?_
                        refine lv_iload hx hb d_Mo_split_101 (lv_at hl 5 rfl) ?_
                        refine lv_isub hx hb d_Mo_split_103 ?_
                        obtain ⟨hi_22, h⟩ := gb_i h
                        refine va_iald hx hb hK hP 11 0 rfl rfl (inb_in hi_22) d_Mo_split_104 ?_
                        obtain ⟨x_23, ex_23, h⟩ := letb_i h
                        refine lv_topn ex_23 ?_
                        refine lv_iconst (v := 1) hx hb d_Mo_split_105 (by decide) ?_
                        refine lv_iadd hx hb d_Mo_split_106 ?_
                        refine lv_aload_n hx hb d_Mo_split_107 rfl (lv_at hl 1 rfl) ?_
                        refine va_get (ci := 8) (v := .ref (xMo 11)) (C := R_Mo) (T := F_Mo) (N := 31) hx hb hts i_Mo hown hK hP 0 rfl rfl 17 (by decide) (hts _ m_721) (fun _ h9 => h9) rfl d_Mo_split_108 ?_
                        refine lv_iload_n hx hb d_Mo_split_111 rfl (lv_at hl 4 rfl) ?_
                        obtain ⟨hi_24, h⟩ := gb_i h
                        refine va_iald hx hb hK hP 11 0 rfl rfl (inb_in hi_24) d_Mo_split_112 ?_
                        obtain ⟨x_25, ex_25, h⟩ := letb_i h
                        refine lv_topn ex_25 ?_
                        refine lv_icmp_ge (tgt := 130) hx hb d_Mo_split_113 (by decide) (fun c_26 => ?_) (fun c_26 => ?_)
                        · rw [if_pos c_26] at h
                          exact K130 v3_84 v2_84 v3_84 v4_84 s0_84 gMo_84 H locs ls hP hD hS (lv_sub hl [1, 2, 3, 4, 5, 0] rfl) h
                        · rw [if_neg c_26] at h
                          refine lv_aload_n hx hb d_Mo_split_116 rfl (lv_at hl 1 rfl) ?_
                          refine va_get (ci := 8) (v := .ref (xMo 11)) (C := R_Mo) (T := F_Mo) (N := 31) hx hb hts i_Mo hown hK hP 0 rfl rfl 17 (by decide) (hts _ m_721) (fun _ h9 => h9) rfl d_Mo_split_117 ?_
                          refine lv_iload_n hx hb d_Mo_split_120 rfl (lv_at hl 4 rfl) ?_
                          refine lv_iload hx hb d_Mo_split_121 (lv_at hl 5 rfl) ?_
                          refine lv_isub hx hb d_Mo_split_123 ?_
                          obtain ⟨hi_27, h⟩ := gb_i h
                          refine va_iald hx hb hK hP 11 0 rfl rfl (inb_in hi_27) d_Mo_split_124 ?_
                          obtain ⟨x_28, ex_28, h⟩ := letb_i h
                          refine lv_topn ex_28 ?_
                          refine lv_iconst (v := 1) hx hb d_Mo_split_125 (by decide) ?_
                          refine lv_iadd hx hb d_Mo_split_126 ?_
                          refine lv_goto (tgt := 136) hx hb d_Mo_split_127 (by decide) ?_
                          exact K136 v3_84 (x_28 + 1) v2_84 v3_84 v4_84 s0_84 gMo_84 H locs ls hP hD hS (lv_sub hl [1, 2, 3, 4, 5, 0] rfl) h
                    have K83 : ∀ (v2_83 : Int32) (v3_83 : Int32) (v4_83 : Int32) (gMo_83 : St) (H : Heap) (locs : List Loc) (ls : Array Slot), va_P D vwCl (wMo xMo cI cZ gMo_83) H → va_D A (wMo xMo cI cZ gMo_83) → va_S A s.heap H locs → lv_has ls 6 [(0, .ref (xMo 0)), (1, .int p1), (2, .int v2_83), (3, .int v3_83), (4, .int v4_83)] → f_Mo_split_J83 kc_54 v2_83 v3_83 v4_83 gMo_83 = some (r, gMo1) → W p l e rm_Mo_split_r s m args below meth c H locs 0 0 Q (F0 m 83 ls []) := by
                      intro v2_83 v3_83 v4_83 gMo_83 H locs ls hP hD hS hl h
                      unfold f_Mo_split_J83 at h
                      refine lv_iconst (v := 0) hx hb d_Mo_split_83 (by decide) ?_
                      exact K84 0 v2_83 v3_83 v4_83 gMo_83 H locs ls hP hD hS (lv_sub hl [0, 1, 2, 3, 4] rfl) h
                    refine lv_icmp_ne (tgt := 83) hx hb d_Mo_split_66 (by decide) (fun c_29 => ?_) (fun c_29 => ?_)
                    · rw [if_neg c_29] at h
                      exact K83 v2_54 v3_54 v4_54 gMo_54 H locs ls hP hD hS (lv_sub hl [0, 1, 2, 3, 4] rfl) h
                    · rw [if_pos c_29] at h
                      refine lv_aload_n hx hb d_Mo_split_69 rfl (lv_at hl 0 rfl) ?_
                      refine lv_iload hx hb d_Mo_split_70 (lv_at hl 4 rfl) ?_
                      obtain ⟨r_30, hc_31, h⟩ := xv1_i h
                      refine cVi (ws' := (wMo xMo cI cZ gMo_54)) (As := [.int v4_54]) (rest := []) C0 hP hD hS hl.1 [0, 1, 2, 3, 4, 5, 6, 7, 8, 9, 10, 11, 12, 13, 14, 15] (c_Mo_weight_r l D cI cZ cJ xMo H.size gMo_54 v4_54 r_30 hc_31) k_Mo_weight m_905 rfl rfl rfl rfl rfl (rp_same rfl) ⟨by decide, by decide⟩ ⟨rfl, rfl⟩ rfl (Nat.le_of_ble_eq_true rfl) d_Mo_split_72 ⟨Nat.zero_le _, Nat.zero_le _⟩ (fun H locs hP hD hS => ?_)
                      refine lv_iload_n hx hb d_Mo_split_75 rfl (lv_at hl 1 rfl) ?_
                      refine lv_icmp_gt (tgt := 83) hx hb d_Mo_split_76 (by decide) (fun c_32 => ?_) (fun c_32 => ?_)
                      · rw [if_pos c_32] at h
                        exact K83 v2_54 v3_54 v4_54 gMo_54 H locs ls hP hD hS (lv_sub hl [0, 1, 2, 3, 4] rfl) h
                      · rw [if_neg c_32] at h
                        refine lv_iconst (v := 1) hx hb d_Mo_split_79 (by decide) ?_
                        refine lv_goto (tgt := 84) hx hb d_Mo_split_80 (by decide) ?_
                        exact K84 1 v2_54 v3_54 v4_54 gMo_54 H locs ls hP hD hS (lv_sub hl [0, 1, 2, 3, 4] rfl) h
              exact K54 FU v2_50 v3_50 1 gMo_13 H locs ls hP hD hS (lv_sub hl [1, 2, 3, 4, 0] rfl) h
            refine lv_if_ne (tgt := 48) hx hb d_Mo_split_41 (by decide) (fun c_33 => ?_) (fun c_33 => ?_)
            · rw [if_neg c_33] at h
              refine lv_bipush (v := 99) hx hb d_Mo_split_48 (by decide) ?_
              exact K50 v3_30 99 v2_30 v3_30 gMo_30 H locs ls hP hD hS (lv_sub hl [0, 1, 2, 3] rfl) h
            · rw [if_pos c_33] at h
              refine lv_iconst (v := 0) hx hb d_Mo_split_44 (by decide) ?_
              refine lv_goto (tgt := 50) hx hb d_Mo_split_45 (by decide) ?_
              exact K50 v3_30 0 v2_30 v3_30 gMo_30 H locs ls hP hD hS (lv_sub hl [0, 1, 2, 3] rfl) h
      exact K30 FU x_5 0 gMo_2 H locs ls hP hD hS (lv_sub hl [2, 3, 1, 0] rfl) h
    · rw [if_pos c_4] at h
      refine lv_iconst (v := 0) hx hb d_Mo_split_19 (by decide) ?_
      cases h
      rw [hQ]
      exact mi_ret C0 hr rfl hlk hP hD hS d_Mo_split_20
  refine lv_icmp_lt (tgt := 10) hx hb d_Mo_split_3 (by decide) (fun c_34 => ?_) (fun c_34 => ?_)
  · rw [if_pos c_34] at h
    refine lv_iconst (v := 0) hx hb d_Mo_split_10 (by decide) ?_
    exact K11 0 H locs ls hP hD hS (lv_sub hl [0, 1] rfl) h
  · rw [if_neg c_34] at h
    refine lv_iconst (v := 1) hx hb d_Mo_split_6 (by decide) ?_
    refine lv_goto (tgt := 11) hx hb d_Mo_split_7 (by decide) ?_
    exact K11 1 H locs ls hP hD hS (lv_sub hl [0, 1] rfl) h
abbrev rm_Mo_lag_r : Room := { frames := 1, cells := 0, slots := 0, locals := 23 }
set_option maxRecDepth 100000 in
set_option maxHeartbeats 4000000 in
theorem c_Mo_lag_r (l : Launch) (D : va_G) (cI cZ cJ : ClassId) (xMo : Nat → Nat) (sz : Nat) (gMo : St) (p1 : Int32) (r : Int32) (gMo1 : St) (h : f_Mo_lag gMo p1 = some (r, gMo1)) : MI l y_Mo_lag b_Mo_lag 3 (some .int) rm_Mo_lag_r D (TYS cI cZ cJ) [.ref (xMo 0), .int p1] (wMo xMo cI cZ gMo) sz r (wMo xMo cI cZ gMo1) := by
  refine mi_start (own := R_Mo) (by decide +kernel) rfl (Nat.le_of_ble_eq_true rfl) (fun p e s m args below meth c A ls C0 hr hlk hP hD hS hl => ?_)
  obtain ⟨Q, hQ⟩ : ∃ Q, Q = QI below D (TYS cI cZ cJ) A (wMo xMo cI cZ gMo1) r args s := ⟨_, rfl⟩
  rw [← hQ]
  obtain ⟨hx, hb, -, hown, hts, hK, hE, -⟩ := id C0
  have hl : lv_has ls 3 [(0, .ref (xMo 0)), (1, .int p1)] := hl
  obtain ⟨H, hH⟩ : ∃ H, H = s.heap := ⟨_, rfl⟩
  have hP : va_P D vwCl (wMo xMo cI cZ gMo) H := by rw [hH]; exact hP
  have hS : va_S A s.heap H [] := by rw [hH]; exact hS
  rw [show W p l e rm_Mo_lag_r s m args below meth c s.heap = W p l e rm_Mo_lag_r s m args below meth c H by rw [hH]]
  generalize ([] : List Loc) = locs at hS ⊢
  unfold f_Mo_lag at h
  refine lv_aload_n hx hb d_Mo_lag_0 rfl (lv_at hl 0 rfl) ?_
  refine lv_iload_n hx hb d_Mo_lag_1 rfl (lv_at hl 1 rfl) ?_
  refine lv_iconst (v := 1) hx hb d_Mo_lag_2 (by decide) ?_
  refine lv_bipush (v := 100) hx hb d_Mo_lag_3 (by decide) ?_
  obtain ⟨r_1, hc_2, h⟩ := xv1_i h
  refine cSi (ws' := (wMo xMo cI cZ gMo)) (As := [.int p1, .int 1, .int 100]) (rest := [.ref (xMo 0)]) C0 hP hD hS hl.1 [] (c_Mo_within_r l D cI cZ cJ  H.size p1 1 100 r_1 hc_2) k_Mo_within m_806 rfl rfl rfl (rp_same rfl) ⟨by decide, by decide⟩ ⟨rfl, rfl⟩ rfl (Nat.le_of_ble_eq_true rfl) d_Mo_lag_5 ⟨Nat.zero_le _, Nat.zero_le _⟩ (fun H locs hP hD hS => ?_)
  refine lv_iconst (v := 1) hx hb d_Mo_lag_8 (by decide) ?_
  refine lv_iconst (v := 1) hx hb d_Mo_lag_9 (by decide) ?_
  obtain ⟨r_3, gMo_4, hc_5, h⟩ := xv2_i h
  refine cVi (ws' := (wMo xMo cI cZ gMo_4)) (As := [.int r_1, .int 1, .int 1]) (rest := []) C0 hP hD hS hl.1 [0, 1, 2, 3, 4, 5, 6, 7, 8, 9, 10, 11, 12, 13, 14, 15] (c_Mo_goes_r l D cI cZ cJ xMo H.size gMo r_1 1 1 r_3 gMo_4 hc_5) k_Mo_goes m_810 rfl rfl rfl rfl rfl (rp_all rfl rfl) ⟨by decide, by decide⟩ ⟨rfl, rfl⟩ rfl (Nat.le_of_ble_eq_true rfl) d_Mo_lag_10 ⟨Nat.zero_le _, Nat.zero_le _⟩ (fun H locs hP hD hS => ?_)
  refine lv_if_ne (tgt := 18) hx hb d_Mo_lag_13 (by decide) (fun c_6 => ?_) (fun c_6 => ?_)
  · rw [if_neg c_6] at h
    refine lv_aload_n hx hb d_Mo_lag_18 rfl (lv_at hl 0 rfl) ?_
    refine va_get (ci := 8) (v := .int (gMo_4 0 23)) (C := R_Mo) (T := F_Mo) (N := 31) hx hb hts i_Mo hown hK hP 0 rfl rfl 23 (by decide) (hts _ m_727) (fun _ h9 => h9) rfl d_Mo_lag_19 ?_
    obtain ⟨x_7, ex_7, h⟩ := letb_i h
    refine lv_topn ex_7 ?_
    refine lv_istore_n (lv' := [(2, .int x_7), (0, .ref (xMo 0)), (1, .int p1)]) hx hb d_Mo_lag_22 rfl hl (by decide) rfl (fun ls hl => ?_)
    refine lv_aload_n hx hb d_Mo_lag_23 rfl (lv_at hl 1 rfl) ?_
    refine lv_iload_n hx hb d_Mo_lag_24 rfl (lv_at hl 2 rfl) ?_
    refine va_put (ci := 8) (v := .int p1) (ty := .int) (C := R_Mo) (T := F_Mo) (N := 31) hx hb hts i_Mo t_Mo o_Mo n_Mo hown hK hP hD hS 0 rfl rfl 23 (by decide) (hts _ m_727) (fun _ h9 => h9) rfl (by decide +kernel) rfl rfl (Nat.le_of_ble_eq_true rfl) d_Mo_lag_25 (fun H locs hP hD hS => ?_)
    obtain ⟨gMo_8, egMo_8, h⟩ := letb_i h
    have hP : va_P D vwCl (wMo xMo cI cZ gMo_8) H := by rw [egMo_8, u_Mo_0_23]; exact hP
    have hD : va_D A (wMo xMo cI cZ gMo_8) := by rw [egMo_8, u_Mo_0_23]; exact hD
    refine lv_iload_n hx hb d_Mo_lag_28 rfl (lv_at hl 0 rfl) ?_
    cases h
    rw [hQ]
    exact mi_ret C0 hr rfl hlk hP hD hS d_Mo_lag_29
  · rw [if_pos c_6] at h
    refine lv_iconst (v := 0) hx hb d_Mo_lag_16 (by decide) ?_
    cases h
    rw [hQ]
    exact mi_ret C0 hr rfl hlk hP hD hS d_Mo_lag_17
abbrev rm_Mo_climate_r : Room := { frames := 1, cells := 0, slots := 0, locals := 23 }
set_option maxRecDepth 100000 in
set_option maxHeartbeats 4000000 in
theorem c_Mo_climate_r (l : Launch) (D : va_G) (cI cZ cJ : ClassId) (xMo : Nat → Nat) (sz : Nat) (gMo : St) (p1 : Int32) (r : Int32) (gMo1 : St) (h : f_Mo_climate gMo p1 = some (r, gMo1)) : MI l y_Mo_climate b_Mo_climate 3 (some .int) rm_Mo_climate_r D (TYS cI cZ cJ) [.ref (xMo 0), .int p1] (wMo xMo cI cZ gMo) sz r (wMo xMo cI cZ gMo1) := by
  refine mi_start (own := R_Mo) (by decide +kernel) rfl (Nat.le_of_ble_eq_true rfl) (fun p e s m args below meth c A ls C0 hr hlk hP hD hS hl => ?_)
  obtain ⟨Q, hQ⟩ : ∃ Q, Q = QI below D (TYS cI cZ cJ) A (wMo xMo cI cZ gMo1) r args s := ⟨_, rfl⟩
  rw [← hQ]
  obtain ⟨hx, hb, -, hown, hts, hK, hE, -⟩ := id C0
  have hl : lv_has ls 3 [(0, .ref (xMo 0)), (1, .int p1)] := hl
  obtain ⟨H, hH⟩ : ∃ H, H = s.heap := ⟨_, rfl⟩
  have hP : va_P D vwCl (wMo xMo cI cZ gMo) H := by rw [hH]; exact hP
  have hS : va_S A s.heap H [] := by rw [hH]; exact hS
  rw [show W p l e rm_Mo_climate_r s m args below meth c s.heap = W p l e rm_Mo_climate_r s m args below meth c H by rw [hH]]
  generalize ([] : List Loc) = locs at hS ⊢
  unfold f_Mo_climate at h
  refine lv_aload_n hx hb d_Mo_climate_0 rfl (lv_at hl 0 rfl) ?_
  refine lv_aload_n hx hb d_Mo_climate_1 rfl (lv_at hl 0 rfl) ?_
  refine va_get (ci := 8) (v := .int (gMo 0 21)) (C := R_Mo) (T := F_Mo) (N := 31) hx hb hts i_Mo hown hK hP 0 rfl rfl 21 (by decide) (hts _ m_725) (fun _ h9 => h9) rfl d_Mo_climate_2 ?_
  refine lv_sipush (v := 200) hx hb d_Mo_climate_5 (by decide) ?_
  have K16 : ∀ (s1_16 : Int32) (H : Heap) (locs : List Loc) (ls : Array Slot), va_P D vwCl (wMo xMo cI cZ gMo) H → va_D A (wMo xMo cI cZ gMo) → va_S A s.heap H locs → lv_has ls 3 [(0, .ref (xMo 0)), (1, .int p1)] → f_Mo_climate_J16 gMo p1 s1_16 = some (r, gMo1) → W p l e rm_Mo_climate_r s m args below meth c H locs 0 0 Q (F0 m 16 ls [.int s1_16, .ref (xMo 0)]) := by
    intro s1_16 H locs ls hP hD hS hl h
    unfold f_Mo_climate_J16 at h
    refine lv_iload_n hx hb d_Mo_climate_16 rfl (lv_at hl 1 rfl) ?_
    refine lv_bipush (v := (-60)) hx hb d_Mo_climate_17 (by decide) ?_
    refine lv_bipush (v := 60) hx hb d_Mo_climate_19 (by decide) ?_
    obtain ⟨r_1, hc_2, h⟩ := xv1_i h
    refine cSi (ws' := (wMo xMo cI cZ gMo)) (As := [.int p1, .int (-60), .int 60]) (rest := [.int s1_16, .ref (xMo 0)]) C0 hP hD hS hl.1 [] (c_Mo_within_r l D cI cZ cJ  H.size p1 (-60) 60 r_1 hc_2) k_Mo_within m_806 rfl rfl rfl (rp_same rfl) ⟨by decide, by decide⟩ ⟨rfl, rfl⟩ rfl (Nat.le_of_ble_eq_true rfl) d_Mo_climate_21 ⟨Nat.zero_le _, Nat.zero_le _⟩ (fun H locs hP hD hS => ?_)
    refine lv_iconst (v := 1) hx hb d_Mo_climate_24 (by decide) ?_
    obtain ⟨r_3, gMo_4, hc_5, h⟩ := xv2_i h
    refine cVi (ws' := (wMo xMo cI cZ gMo_4)) (As := [.int s1_16, .int r_1, .int 1]) (rest := []) C0 hP hD hS hl.1 [0, 1, 2, 3, 4, 5, 6, 7, 8, 9, 10, 11, 12, 13, 14, 15] (c_Mo_goes_r l D cI cZ cJ xMo H.size gMo s1_16 r_1 1 r_3 gMo_4 hc_5) k_Mo_goes m_810 rfl rfl rfl rfl rfl (rp_all rfl rfl) ⟨by decide, by decide⟩ ⟨rfl, rfl⟩ rfl (Nat.le_of_ble_eq_true rfl) d_Mo_climate_25 ⟨Nat.zero_le _, Nat.zero_le _⟩ (fun H locs hP hD hS => ?_)
    refine lv_if_ne (tgt := 33) hx hb d_Mo_climate_28 (by decide) (fun c_6 => ?_) (fun c_6 => ?_)
    · rw [if_neg c_6] at h
      refine lv_aload_n hx hb d_Mo_climate_33 rfl (lv_at hl 0 rfl) ?_
      refine va_get (ci := 8) (v := .int (gMo_4 0 21)) (C := R_Mo) (T := F_Mo) (N := 31) hx hb hts i_Mo hown hK hP 0 rfl rfl 21 (by decide) (hts _ m_725) (fun _ h9 => h9) rfl d_Mo_climate_34 ?_
      have K57 : ∀ (s0_57 : Int32) (gMo_57 : St) (H : Heap) (locs : List Loc) (ls : Array Slot), va_P D vwCl (wMo xMo cI cZ gMo_57) H → va_D A (wMo xMo cI cZ gMo_57) → va_S A s.heap H locs → lv_has ls 3 [(0, .ref (xMo 0)), (1, .int p1)] → f_Mo_climate_J57 p1 s0_57 gMo_57 = some (r, gMo1) → W p l e rm_Mo_climate_r s m args below meth c H locs 0 0 Q (F0 m 57 ls [.int s0_57]) := by
        intro s0_57 gMo_57 H locs ls hP hD hS hl h
        unfold f_Mo_climate_J57 at h
        refine lv_istore_n (lv' := [(2, .int s0_57), (0, .ref (xMo 0)), (1, .int p1)]) hx hb d_Mo_climate_57 rfl hl (by decide) rfl (fun ls hl => ?_)
        refine lv_aload_n hx hb d_Mo_climate_58 rfl (lv_at hl 1 rfl) ?_
        refine va_get (ci := 8) (v := .ref (xMo 14)) (C := R_Mo) (T := F_Mo) (N := 31) hx hb hts i_Mo hown hK hP 0 rfl rfl 22 (by decide) (hts _ m_726) (fun _ h9 => h9) rfl d_Mo_climate_59 ?_
        refine lv_aload_n hx hb d_Mo_climate_62 rfl (lv_at hl 1 rfl) ?_
        refine va_get (ci := 8) (v := .int (gMo_57 0 21)) (C := R_Mo) (T := F_Mo) (N := 31) hx hb hts i_Mo hown hK hP 0 rfl rfl 21 (by decide) (hts _ m_725) (fun _ h9 => h9) rfl d_Mo_climate_63 ?_
        refine lv_iload_n hx hb d_Mo_climate_66 rfl (lv_at hl 0 rfl) ?_
        refine lv_iload_n hx hb d_Mo_climate_67 rfl (lv_at hl 0 rfl) ?_
        refine lv_sipush (v := 1000) hx hb d_Mo_climate_68 (by decide) ?_
        refine lv_iload_n hx hb d_Mo_climate_71 rfl (lv_at hl 2 rfl) ?_
        refine lv_imul hx hb d_Mo_climate_72 ?_
        refine lv_isub hx hb d_Mo_climate_73 ?_
        refine lv_aload_n hx hb d_Mo_climate_74 rfl (lv_at hl 1 rfl) ?_
        refine va_get (ci := 8) (v := .int (gMo_57 0 23)) (C := R_Mo) (T := F_Mo) (N := 31) hx hb hts i_Mo hown hK hP 0 rfl rfl 23 (by decide) (hts _ m_727) (fun _ h9 => h9) rfl d_Mo_climate_75 ?_
        obtain ⟨r_7, hc_8, h⟩ := xv1_i h
        refine cSi (ws' := (wMo xMo cI cZ gMo_57)) (As := [.int (s0_57 - (1000 * p1)), .int (gMo_57 0 23)]) (rest := [.int s0_57, .int (gMo_57 0 21), .ref (xMo 14)]) C0 hP hD hS hl.1 [] (c_Mo_up_r l D cI cZ cJ  H.size (s0_57 - (1000 * p1)) (gMo_57 0 23) r_7 hc_8) k_Mo_up m_842 rfl rfl rfl (rp_same rfl) ⟨by decide, by decide⟩ ⟨rfl, rfl⟩ rfl (Nat.le_of_ble_eq_true rfl) d_Mo_climate_78 ⟨Nat.zero_le _, Nat.zero_le _⟩ (fun H locs hP hD hS => ?_)
        refine lv_isub hx hb d_Mo_climate_81 ?_
        obtain ⟨hi_9, h⟩ := gb_i h
        refine va_iast hx hb hK hP hD hS 14 0 rfl rfl (inb_in hi_9) d_Mo_climate_82 (fun H locs hP hD hS => ?_)
        obtain ⟨gMo_10, egMo_10, h⟩ := letb_i h
        have hP : va_P D vwCl (wMo xMo cI cZ gMo_10) H := by rw [egMo_10, u_Mo_14]; exact hP
        have hD : va_D A (wMo xMo cI cZ gMo_10) := by rw [egMo_10, u_Mo_14]; exact hD
        refine lv_aload_n hx hb d_Mo_climate_83 rfl (lv_at hl 1 rfl) ?_
        refine lv_dup hx hb d_Mo_climate_84 rfl ?_
        refine va_get (ci := 8) (v := .int (gMo_10 0 21)) (C := R_Mo) (T := F_Mo) (N := 31) hx hb hts i_Mo hown hK hP 0 rfl rfl 21 (by decide) (hts _ m_725) (fun _ h9 => h9) rfl d_Mo_climate_85 ?_
        refine lv_iconst (v := 1) hx hb d_Mo_climate_88 (by decide) ?_
        refine lv_iadd hx hb d_Mo_climate_89 ?_
        refine va_put (ci := 8) (v := .int ((gMo_10 0 21) + 1)) (ty := .int) (C := R_Mo) (T := F_Mo) (N := 31) hx hb hts i_Mo t_Mo o_Mo n_Mo hown hK hP hD hS 0 rfl rfl 21 (by decide) (hts _ m_725) (fun _ h9 => h9) rfl (by decide +kernel) rfl rfl (Nat.le_of_ble_eq_true rfl) d_Mo_climate_90 (fun H locs hP hD hS => ?_)
        obtain ⟨gMo_11, egMo_11, h⟩ := letb_i h
        have hP : va_P D vwCl (wMo xMo cI cZ gMo_11) H := by rw [egMo_11, u_Mo_0_21]; exact hP
        have hD : va_D A (wMo xMo cI cZ gMo_11) := by rw [egMo_11, u_Mo_0_21]; exact hD
        refine lv_aload_n hx hb d_Mo_climate_93 rfl (lv_at hl 1 rfl) ?_
        refine va_get (ci := 8) (v := .ref (xMo 14)) (C := R_Mo) (T := F_Mo) (N := 31) hx hb hts i_Mo hown hK hP 0 rfl rfl 22 (by decide) (hts _ m_726) (fun _ h9 => h9) rfl d_Mo_climate_94 ?_
        refine lv_aload_n hx hb d_Mo_climate_97 rfl (lv_at hl 1 rfl) ?_
        refine va_get (ci := 8) (v := .int (gMo_11 0 21)) (C := R_Mo) (T := F_Mo) (N := 31) hx hb hts i_Mo hown hK hP 0 rfl rfl 21 (by decide) (hts _ m_725) (fun _ h9 => h9) rfl d_Mo_climate_98 ?_
        refine lv_iconst (v := 1) hx hb d_Mo_climate_101 (by decide) ?_
        refine lv_isub hx hb d_Mo_climate_102 ?_
        obtain ⟨hi_12, h⟩ := gb_i h
        refine va_iald hx hb hK hP 14 0 rfl rfl (inb_in hi_12) d_Mo_climate_103 ?_
        obtain ⟨x_13, ex_13, h⟩ := letb_i h
        refine lv_topn ex_13 ?_
        cases h
        rw [hQ]
        exact mi_ret C0 hr rfl hlk hP hD hS d_Mo_climate_104
      refine lv_if_ne (tgt := 46) hx hb d_Mo_climate_37 (by decide) (fun c_14 => ?_) (fun c_14 => ?_)
      · rw [if_neg c_14] at h
        refine lv_aload_n hx hb d_Mo_climate_46 rfl (lv_at hl 0 rfl) ?_
        refine va_get (ci := 8) (v := .ref (xMo 14)) (C := R_Mo) (T := F_Mo) (N := 31) hx hb hts i_Mo hown hK hP 0 rfl rfl 22 (by decide) (hts _ m_726) (fun _ h9 => h9) rfl d_Mo_climate_47 ?_
        refine lv_aload_n hx hb d_Mo_climate_50 rfl (lv_at hl 0 rfl) ?_
        refine va_get (ci := 8) (v := .int (gMo_4 0 21)) (C := R_Mo) (T := F_Mo) (N := 31) hx hb hts i_Mo hown hK hP 0 rfl rfl 21 (by decide) (hts _ m_725) (fun _ h9 => h9) rfl d_Mo_climate_51 ?_
        refine lv_iconst (v := 1) hx hb d_Mo_climate_54 (by decide) ?_
        refine lv_isub hx hb d_Mo_climate_55 ?_
        obtain ⟨hi_15, h⟩ := gb_i h
        refine va_iald hx hb hK hP 14 0 rfl rfl (inb_in hi_15) d_Mo_climate_56 ?_
        obtain ⟨x_16, ex_16, h⟩ := letb_i h
        refine lv_topn ex_16 ?_
        exact K57 x_16 gMo_4 H locs ls hP hD hS (lv_sub hl [0, 1] rfl) h
      · rw [if_pos c_14] at h
        refine lv_sipush (v := 20000) hx hb d_Mo_climate_40 (by decide) ?_
        refine lv_goto (tgt := 57) hx hb d_Mo_climate_43 (by decide) ?_
        exact K57 20000 gMo_4 H locs ls hP hD hS (lv_sub hl [0, 1] rfl) h
    · rw [if_pos c_6] at h
      refine lv_iconst (v := 0) hx hb d_Mo_climate_31 (by decide) ?_
      cases h
      rw [hQ]
      exact mi_ret C0 hr rfl hlk hP hD hS d_Mo_climate_32
  refine lv_icmp_ge (tgt := 15) hx hb d_Mo_climate_8 (by decide) (fun c_17 => ?_) (fun c_17 => ?_)
  · rw [if_pos c_17] at h
    refine lv_iconst (v := 0) hx hb d_Mo_climate_15 (by decide) ?_
    exact K16 0 H locs ls hP hD hS (lv_sub hl [0, 1] rfl) h
  · rw [if_neg c_17] at h
    refine lv_iconst (v := 1) hx hb d_Mo_climate_11 (by decide) ?_
    refine lv_goto (tgt := 16) hx hb d_Mo_climate_12 (by decide) ?_
    exact K16 1 H locs ls hP hD hS (lv_sub hl [0, 1] rfl) h
