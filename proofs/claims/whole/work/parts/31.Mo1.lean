abbrev rm_Mo_valueOf_r : Room := { frames := 1, cells := 0, slots := 0, locals := 22 }
set_option maxRecDepth 100000 in
set_option maxHeartbeats 4000000 in
theorem c_Mo_valueOf_r (l : Launch) (D : va_G) (cI cZ cJ : ClassId) (xMo : Nat → Nat) (sz : Nat) (gMo : St) (p1 : Int32) (p2 : Int32) (r : Int32) (h : f_Mo_valueOf gMo p1 p2 = some r) : MI l y_Mo_valueOf b_Mo_valueOf 4 (some .int) rm_Mo_valueOf_r D (TYS cI cZ cJ) [.ref (xMo 0), .int p1, .int p2] (wMo xMo cI cZ gMo) sz r (wMo xMo cI cZ gMo) := by
  refine mi_start (own := R_Mo) (by decide +kernel) rfl (Nat.le_of_ble_eq_true rfl) (fun p e s m args below meth c A ls C0 hr hlk hP hD hS hl => ?_)
  obtain ⟨Q, hQ⟩ : ∃ Q, Q = QI below D (TYS cI cZ cJ) A (wMo xMo cI cZ gMo) r args s := ⟨_, rfl⟩
  rw [← hQ]
  obtain ⟨hx, hb, -, hown, hts, hK, hE, -⟩ := id C0
  have hl : lv_has ls 4 [(0, .ref (xMo 0)), (1, .int p1), (2, .int p2)] := hl
  obtain ⟨H, hH⟩ : ∃ H, H = s.heap := ⟨_, rfl⟩
  have hP : va_P D vwCl (wMo xMo cI cZ gMo) H := by rw [hH]; exact hP
  have hS : va_S A s.heap H [] := by rw [hH]; exact hS
  rw [show W p l e rm_Mo_valueOf_r s m args below meth c s.heap = W p l e rm_Mo_valueOf_r s m args below meth c H by rw [hH]]
  generalize ([] : List Loc) = locs at hS ⊢
  unfold f_Mo_valueOf at h
  refine lv_bipush (v := 6) hx hb d_Mo_valueOf_0 (by decide) ?_
  refine lv_iload_n hx hb d_Mo_valueOf_2 rfl (lv_at hl 1 rfl) ?_
  refine lv_imul hx hb d_Mo_valueOf_3 ?_
  obtain ⟨x_1, ex_1, h⟩ := letb_i h
  refine lv_topn ex_1 ?_
  refine lv_istore_n (lv' := [(3, .int x_1), (0, .ref (xMo 0)), (1, .int p1), (2, .int p2)]) hx hb d_Mo_valueOf_4 rfl hl (by decide) rfl (fun ls hl => ?_)
  have K132 : ∀ (v3_132 : Int32) (H : Heap) (locs : List Loc) (ls : Array Slot), va_P D vwCl (wMo xMo cI cZ gMo) H → va_D A (wMo xMo cI cZ gMo) → va_S A s.heap H locs → lv_has ls 4 [(0, .ref (xMo 0)), (1, .int p1), (2, .int p2), (3, .int v3_132)] → f_Mo_valueOf_X132 v3_132 = some r → W p l e rm_Mo_valueOf_r s m args below meth c H locs 0 0 Q (F0 m 132 ls []) := by
    intro v3_132 H locs ls hP hD hS hl h
    unfold f_Mo_valueOf_X132 at h
    refine lv_iconst (v := (-1)) hx hb d_Mo_valueOf_132 (by decide) ?_
    cases h
    rw [hQ]
    exact mi_ret C0 hr rfl hlk hP hD hS d_Mo_valueOf_133
  have K5 : ∀ (n : Nat) (v3_5 : Int32) (H : Heap) (locs : List Loc) (ls : Array Slot), va_P D vwCl (wMo xMo cI cZ gMo) H → va_D A (wMo xMo cI cZ gMo) → va_S A s.heap H locs → lv_has ls 4 [(0, .ref (xMo 0)), (1, .int p1), (2, .int p2), (3, .int v3_5)] → it1 (f_Mo_valueOf_L5 gMo p1 p2) n v3_5 = some r → W p l e rm_Mo_valueOf_r s m args below meth c H locs 0 0 Q (F0 m 5 ls []) := by
    intro n
    induction n with
    | zero => intro v3_5 H locs ls hP hD hS hl h; exact (it1_0 h).elim
    | succ n ih =>
      intro v3_5 H locs ls hP hD hS hl h
      rw [it1_s, f_Mo_valueOf_L5] at h
      generalize it1 (f_Mo_valueOf_L5 gMo p1 p2) n = kc_5 at h ih
      refine lv_iload_n hx hb d_Mo_valueOf_5 rfl (lv_at hl 3 rfl) ?_
      refine lv_bipush (v := 6) hx hb d_Mo_valueOf_6 (by decide) ?_
      refine lv_iload_n hx hb d_Mo_valueOf_8 rfl (lv_at hl 1 rfl) ?_
      refine lv_imul hx hb d_Mo_valueOf_9 ?_
      refine lv_aload_n hx hb d_Mo_valueOf_10 rfl (lv_at hl 0 rfl) ?_
      refine va_get (ci := 8) (v := .ref (xMo 6)) (C := R_Mo) (T := F_Mo) (N := 31) hx hb hts i_Mo hown hK hP 0 rfl rfl 7 (by decide) (hts _ m_711) (fun _ h9 => h9) rfl d_Mo_valueOf_11 ?_
      refine lv_iload_n hx hb d_Mo_valueOf_14 rfl (lv_at hl 1 rfl) ?_
      obtain ⟨hi_2, h⟩ := gb_i h
      refine va_iald hx hb hK hP 6 0 rfl rfl (inb_in hi_2) d_Mo_valueOf_15 ?_
      obtain ⟨x_3, ex_3, h⟩ := letb_i h
      refine lv_topn ex_3 ?_
      refine lv_iadd hx hb d_Mo_valueOf_16 ?_
      refine lv_icmp_ge (tgt := 132) hx hb d_Mo_valueOf_17 (by decide) (fun c_4 => ?_) (fun c_4 => ?_)
      · rw [if_pos c_4] at h
        exact K132 v3_5 H locs ls hP hD hS (lv_sub hl [0, 1, 2, 3] rfl) h
      · rw [if_neg c_4] at h
        refine lv_aload_n hx hb d_Mo_valueOf_20 rfl (lv_at hl 0 rfl) ?_
        refine va_get (ci := 8) (v := .ref (xMo 7)) (C := R_Mo) (T := F_Mo) (N := 31) hx hb hts i_Mo hown hK hP 0 rfl rfl 8 (by decide) (hts _ m_712) (fun _ h9 => h9) rfl d_Mo_valueOf_21 ?_
        refine lv_iload_n hx hb d_Mo_valueOf_24 rfl (lv_at hl 3 rfl) ?_
        obtain ⟨hi_5, h⟩ := gb_i h
        refine va_iald hx hb hK hP 7 0 rfl rfl (inb_in hi_5) d_Mo_valueOf_25 ?_
        obtain ⟨x_6, ex_6, h⟩ := letb_i h
        refine lv_topn ex_6 ?_
        refine lv_iload_n hx hb d_Mo_valueOf_26 rfl (lv_at hl 2 rfl) ?_
        refine lv_icmp_ne (tgt := 37) hx hb d_Mo_valueOf_27 (by decide) (fun c_7 => ?_) (fun c_7 => ?_)
        · rw [if_neg c_7] at h
          refine lv_iload_n hx hb d_Mo_valueOf_37 rfl (lv_at hl 3 rfl) ?_
          refine lv_iconst (v := 1) hx hb d_Mo_valueOf_38 (by decide) ?_
          refine lv_iadd hx hb d_Mo_valueOf_39 ?_
          refine lv_bipush (v := 6) hx hb d_Mo_valueOf_40 (by decide) ?_
          refine lv_iload_n hx hb d_Mo_valueOf_42 rfl (lv_at hl 1 rfl) ?_
          refine lv_imul hx hb d_Mo_valueOf_43 ?_
          refine lv_aload_n hx hb d_Mo_valueOf_44 rfl (lv_at hl 0 rfl) ?_
          refine va_get (ci := 8) (v := .ref (xMo 6)) (C := R_Mo) (T := F_Mo) (N := 31) hx hb hts i_Mo hown hK hP 0 rfl rfl 7 (by decide) (hts _ m_711) (fun _ h9 => h9) rfl d_Mo_valueOf_45 ?_
          refine lv_iload_n hx hb d_Mo_valueOf_48 rfl (lv_at hl 1 rfl) ?_
          obtain ⟨hi_8, h⟩ := gb_i h
          refine va_iald hx hb hK hP 6 0 rfl rfl (inb_in hi_8) d_Mo_valueOf_49 ?_
          obtain ⟨x_9, ex_9, h⟩ := letb_i h
          refine lv_topn ex_9 ?_
          refine lv_iadd hx hb d_Mo_valueOf_50 ?_
          have K126 : ∀ (v3_126 : Int32) (H : Heap) (locs : List Loc) (ls : Array Slot), va_P D vwCl (wMo xMo cI cZ gMo) H → va_D A (wMo xMo cI cZ gMo) → va_S A s.heap H locs → lv_has ls 4 [(0, .ref (xMo 0)), (1, .int p1), (2, .int p2), (3, .int v3_126)] → f_Mo_valueOf_J126 kc_5 v3_126 = some r → W p l e rm_Mo_valueOf_r s m args below meth c H locs 0 0 Q (F0 m 126 ls []) := by
            intro v3_126 H locs ls hP hD hS hl h
            unfold f_Mo_valueOf_J126 at h
            obtain ⟨x_10, ex_10, h⟩ := letb_i h
            refine lv_iinc (v := x_10) (lv' := [(3, .int x_10), (0, .ref (xMo 0)), (1, .int p1), (2, .int p2)]) hx hb d_Mo_valueOf_126 hl (k := 3) rfl (by rw [ex_10]; rfl) (by decide) rfl (fun ls hl => ?_)
            refine lv_goto (tgt := 5) hx hb d_Mo_valueOf_129 (by decide) ?_
            exact ih x_10 H locs ls hP hD hS (lv_sub hl [1, 2, 3, 0] rfl) h
          refine lv_icmp_ge (tgt := 126) hx hb d_Mo_valueOf_51 (by decide) (fun c_11 => ?_) (fun c_11 => ?_)
          · rw [if_pos c_11] at h
            exact K126 v3_5 H locs ls hP hD hS (lv_sub hl [0, 1, 2, 3] rfl) h
          · rw [if_neg c_11] at h
            refine lv_aload_n hx hb d_Mo_valueOf_54 rfl (lv_at hl 0 rfl) ?_
            refine va_get (ci := 8) (v := .ref (xMo 7)) (C := R_Mo) (T := F_Mo) (N := 31) hx hb hts i_Mo hown hK hP 0 rfl rfl 8 (by decide) (hts _ m_712) (fun _ h9 => h9) rfl d_Mo_valueOf_55 ?_
            refine lv_iload_n hx hb d_Mo_valueOf_58 rfl (lv_at hl 3 rfl) ?_
            obtain ⟨hi_12, h⟩ := gb_i h
            refine va_iald hx hb hK hP 7 0 rfl rfl (inb_in hi_12) d_Mo_valueOf_59 ?_
            obtain ⟨x_13, ex_13, h⟩ := letb_i h
            refine lv_topn ex_13 ?_
            refine lv_iload_n hx hb d_Mo_valueOf_60 rfl (lv_at hl 2 rfl) ?_
            refine lv_icmp_ge (tgt := 126) hx hb d_Mo_valueOf_61 (by decide) (fun c_14 => ?_) (fun c_14 => ?_)
            · rw [if_pos c_14] at h
              exact K126 v3_5 H locs ls hP hD hS (lv_sub hl [0, 1, 2, 3] rfl) h
            · rw [if_neg c_14] at h
              refine lv_iload_n hx hb d_Mo_valueOf_64 rfl (lv_at hl 2 rfl) ?_
              refine lv_aload_n hx hb d_Mo_valueOf_65 rfl (lv_at hl 0 rfl) ?_
              refine va_get (ci := 8) (v := .ref (xMo 7)) (C := R_Mo) (T := F_Mo) (N := 31) hx hb hts i_Mo hown hK hP 0 rfl rfl 8 (by decide) (hts _ m_712) (fun _ h9 => h9) rfl d_Mo_valueOf_66 ?_
              refine lv_iload_n hx hb d_Mo_valueOf_69 rfl (lv_at hl 3 rfl) ?_
              refine lv_iconst (v := 1) hx hb d_Mo_valueOf_70 (by decide) ?_
              refine lv_iadd hx hb d_Mo_valueOf_71 ?_
              obtain ⟨hi_15, h⟩ := gb_i h
              refine va_iald hx hb hK hP 7 0 rfl rfl (inb_in hi_15) d_Mo_valueOf_72 ?_
              obtain ⟨x_16, ex_16, h⟩ := letb_i h
              refine lv_topn ex_16 ?_
              refine lv_icmp_ge (tgt := 126) hx hb d_Mo_valueOf_73 (by decide) (fun c_17 => ?_) (fun c_17 => ?_)
              · rw [if_pos c_17] at h
                exact K126 v3_5 H locs ls hP hD hS (lv_sub hl [0, 1, 2, 3] rfl) h
              · rw [if_neg c_17] at h
                refine lv_aload_n hx hb d_Mo_valueOf_76 rfl (lv_at hl 0 rfl) ?_
                refine va_get (ci := 8) (v := .ref (xMo 8)) (C := R_Mo) (T := F_Mo) (N := 31) hx hb hts i_Mo hown hK hP 0 rfl rfl 9 (by decide) (hts _ m_713) (fun _ h9 => h9) rfl d_Mo_valueOf_77 ?_
                refine lv_iload_n hx hb d_Mo_valueOf_80 rfl (lv_at hl 3 rfl) ?_
                obtain ⟨hi_18, h⟩ := gb_i h
                refine va_iald hx hb hK hP 8 0 rfl rfl (inb_in hi_18) d_Mo_valueOf_81 ?_
                obtain ⟨x_19, ex_19, h⟩ := letb_i h
                refine lv_topn ex_19 ?_
                refine lv_aload_n hx hb d_Mo_valueOf_82 rfl (lv_at hl 0 rfl) ?_
                refine va_get (ci := 8) (v := .ref (xMo 8)) (C := R_Mo) (T := F_Mo) (N := 31) hx hb hts i_Mo hown hK hP 0 rfl rfl 9 (by decide) (hts _ m_713) (fun _ h9 => h9) rfl d_Mo_valueOf_83 ?_
                refine lv_iload_n hx hb d_Mo_valueOf_86 rfl (lv_at hl 3 rfl) ?_
                refine lv_iconst (v := 1) hx hb d_Mo_valueOf_87 (by decide) ?_
                refine lv_iadd hx hb d_Mo_valueOf_88 ?_
                obtain ⟨hi_20, h⟩ := gb_i h
                refine va_iald hx hb hK hP 8 0 rfl rfl (inb_in hi_20) d_Mo_valueOf_89 ?_
                obtain ⟨x_21, ex_21, h⟩ := letb_i h
                refine lv_topn ex_21 ?_
                refine lv_aload_n hx hb d_Mo_valueOf_90 rfl (lv_at hl 0 rfl) ?_
                refine va_get (ci := 8) (v := .ref (xMo 8)) (C := R_Mo) (T := F_Mo) (N := 31) hx hb hts i_Mo hown hK hP 0 rfl rfl 9 (by decide) (hts _ m_713) (fun _ h9 => h9) rfl d_Mo_valueOf_91 ?_
                refine lv_iload_n hx hb d_Mo_valueOf_94 rfl (lv_at hl 3 rfl) ?_
                obtain ⟨hi_22, h⟩ := gb_i h
                refine va_iald hx hb hK hP 8 0 rfl rfl (inb_in hi_22) d_Mo_valueOf_95 ?_
                obtain ⟨x_23, ex_23, h⟩ := letb_i h
                refine lv_topn ex_23 ?_
                refine lv_isub hx hb d_Mo_valueOf_96 ?_
                refine lv_iload_n hx hb d_Mo_valueOf_97 rfl (lv_at hl 2 rfl) ?_
                refine lv_aload_n hx hb d_Mo_valueOf_98 rfl (lv_at hl 0 rfl) ?_
                refine va_get (ci := 8) (v := .ref (xMo 7)) (C := R_Mo) (T := F_Mo) (N := 31) hx hb hts i_Mo hown hK hP 0 rfl rfl 8 (by decide) (hts _ m_712) (fun _ h9 => h9) rfl d_Mo_valueOf_99 ?_
                refine lv_iload_n hx hb d_Mo_valueOf_102 rfl (lv_at hl 3 rfl) ?_
                obtain ⟨hi_24, h⟩ := gb_i h
                refine va_iald hx hb hK hP 7 0 rfl rfl (inb_in hi_24) d_Mo_valueOf_103 ?_
                obtain ⟨x_25, ex_25, h⟩ := letb_i h
                refine lv_topn ex_25 ?_
                refine lv_isub hx hb d_Mo_valueOf_104 ?_
                refine lv_imul hx hb d_Mo_valueOf_105 ?_
                refine lv_aload_n hx hb d_Mo_valueOf_106 rfl (lv_at hl 0 rfl) ?_
                refine va_get (ci := 8) (v := .ref (xMo 7)) (C := R_Mo) (T := F_Mo) (N := 31) hx hb hts i_Mo hown hK hP 0 rfl rfl 8 (by decide) (hts _ m_712) (fun _ h9 => h9) rfl d_Mo_valueOf_107 ?_
                refine lv_iload_n hx hb d_Mo_valueOf_110 rfl (lv_at hl 3 rfl) ?_
                refine lv_iconst (v := 1) hx hb d_Mo_valueOf_111 (by decide) ?_
                refine lv_iadd hx hb d_Mo_valueOf_112 ?_
                obtain ⟨hi_26, h⟩ := gb_i h
                refine va_iald hx hb hK hP 7 0 rfl rfl (inb_in hi_26) d_Mo_valueOf_113 ?_
                obtain ⟨x_27, ex_27, h⟩ := letb_i h
                refine lv_topn ex_27 ?_
                refine lv_aload_n hx hb d_Mo_valueOf_114 rfl (lv_at hl 0 rfl) ?_
                refine va_get (ci := 8) (v := .ref (xMo 7)) (C := R_Mo) (T := F_Mo) (N := 31) hx hb hts i_Mo hown hK hP 0 rfl rfl 8 (by decide) (hts _ m_712) (fun _ h9 => h9) rfl d_Mo_valueOf_115 ?_
                refine lv_iload_n hx hb d_Mo_valueOf_118 rfl (lv_at hl 3 rfl) ?_
                obtain ⟨hi_28, h⟩ := gb_i h
                refine va_iald hx hb hK hP 7 0 rfl rfl (inb_in hi_28) d_Mo_valueOf_119 ?_
                obtain ⟨x_29, ex_29, h⟩ := letb_i h
                refine lv_topn ex_29 ?_
                refine lv_isub hx hb d_Mo_valueOf_120 ?_
                obtain ⟨r_30, hc_31, h⟩ := xv1_i h
                refine cSi (ws' := (wMo xMo cI cZ gMo)) (As := [.int ((x_21 - x_23) * (p2 - x_25)), .int (x_27 - x_29)]) (rest := [.int x_19]) C0 hP hD hS hl.1 [] (c_Mo_up_r l D cI cZ cJ  H.size ((x_21 - x_23) * (p2 - x_25)) (x_27 - x_29) r_30 hc_31) k_Mo_up m_842 rfl rfl rfl (rp_same rfl) ⟨by decide, by decide⟩ ⟨rfl, rfl⟩ rfl (Nat.le_of_ble_eq_true rfl) d_Mo_valueOf_121 ⟨Nat.zero_le _, Nat.zero_le _⟩ (fun H locs hP hD hS => ?_)
                refine lv_iadd hx hb d_Mo_valueOf_124 ?_
                cases h
                rw [hQ]
                exact mi_ret C0 hr rfl hlk hP hD hS d_Mo_valueOf_125
        · rw [if_pos c_7] at h
          refine lv_aload_n hx hb d_Mo_valueOf_30 rfl (lv_at hl 0 rfl) ?_
          refine va_get (ci := 8) (v := .ref (xMo 8)) (C := R_Mo) (T := F_Mo) (N := 31) hx hb hts i_Mo hown hK hP 0 rfl rfl 9 (by decide) (hts _ m_713) (fun _ h9 => h9) rfl d_Mo_valueOf_31 ?_
          refine lv_iload_n hx hb d_Mo_valueOf_34 rfl (lv_at hl 3 rfl) ?_
          obtain ⟨hi_32, h⟩ := gb_i h
          refine va_iald hx hb hK hP 8 0 rfl rfl (inb_in hi_32) d_Mo_valueOf_35 ?_
          obtain ⟨x_33, ex_33, h⟩ := letb_i h
          refine lv_topn ex_33 ?_
          cases h
          rw [hQ]
          exact mi_ret C0 hr rfl hlk hP hD hS d_Mo_valueOf_36
  exact K5 FU x_1 H locs ls hP hD hS (lv_sub hl [1, 2, 3, 0] rfl) h
abbrev rm_Mo_value_r : Room := { frames := 2, cells := 0, slots := 0, locals := 45 }
set_option maxRecDepth 100000 in
set_option maxHeartbeats 4000000 in
theorem c_Mo_value_r (l : Launch) (D : va_G) (cI cZ cJ : ClassId) (xMo : Nat → Nat) (sz : Nat) (gMo : St) (p1 : Int32) (p2 : Int32) (p3 : Int32) (r : Int32) (gMo1 : St) (h : f_Mo_value gMo p1 p2 p3 = some (r, gMo1)) : MI l y_Mo_value b_Mo_value 4 (some .int) rm_Mo_value_r D (TYS cI cZ cJ) [.ref (xMo 0), .int p1, .int p2, .int p3] (wMo xMo cI cZ gMo) sz r (wMo xMo cI cZ gMo1) := by
  refine mi_start (own := R_Mo) (by decide +kernel) rfl (Nat.le_of_ble_eq_true rfl) (fun p e s m args below meth c A ls C0 hr hlk hP hD hS hl => ?_)
  obtain ⟨Q, hQ⟩ : ∃ Q, Q = QI below D (TYS cI cZ cJ) A (wMo xMo cI cZ gMo1) r args s := ⟨_, rfl⟩
  rw [← hQ]
  obtain ⟨hx, hb, -, hown, hts, hK, hE, -⟩ := id C0
  have hl : lv_has ls 4 [(0, .ref (xMo 0)), (1, .int p1), (2, .int p2), (3, .int p3)] := hl
  obtain ⟨H, hH⟩ : ∃ H, H = s.heap := ⟨_, rfl⟩
  have hP : va_P D vwCl (wMo xMo cI cZ gMo) H := by rw [hH]; exact hP
  have hS : va_S A s.heap H [] := by rw [hH]; exact hS
  rw [show W p l e rm_Mo_value_r s m args below meth c s.heap = W p l e rm_Mo_value_r s m args below meth c H by rw [hH]]
  generalize ([] : List Loc) = locs at hS ⊢
  unfold f_Mo_value at h
  refine lv_aload_n hx hb d_Mo_value_0 rfl (lv_at hl 0 rfl) ?_
  refine lv_aload_n hx hb d_Mo_value_1 rfl (lv_at hl 0 rfl) ?_
  refine lv_iload_n hx hb d_Mo_value_2 rfl (lv_at hl 1 rfl) ?_
  refine lv_iload_n hx hb d_Mo_value_3 rfl (lv_at hl 2 rfl) ?_
  obtain ⟨r_1, hc_2, h⟩ := xv1_i h
  refine cVi (ws' := (wMo xMo cI cZ gMo)) (As := [.int p1, .int p2]) (rest := [.ref (xMo 0)]) C0 hP hD hS hl.1 [0, 1, 2, 3, 4, 5, 6, 7, 8, 9, 10, 11, 12, 13, 14, 15] (c_Mo_isRow_r l D cI cZ cJ xMo H.size gMo p1 p2 r_1 hc_2) k_Mo_isRow m_830 rfl rfl rfl rfl rfl (rp_same rfl) ⟨by decide, by decide⟩ ⟨rfl, rfl⟩ rfl (Nat.le_of_ble_eq_true rfl) d_Mo_value_4 ⟨Nat.zero_le _, Nat.zero_le _⟩ (fun H locs hP hD hS => ?_)
  refine lv_iconst (v := 1) hx hb d_Mo_value_7 (by decide) ?_
  refine lv_iconst (v := 1) hx hb d_Mo_value_8 (by decide) ?_
  obtain ⟨r_3, gMo_4, hc_5, h⟩ := xv2_i h
  refine cVi (ws' := (wMo xMo cI cZ gMo_4)) (As := [.int r_1, .int 1, .int 1]) (rest := []) C0 hP hD hS hl.1 [0, 1, 2, 3, 4, 5, 6, 7, 8, 9, 10, 11, 12, 13, 14, 15] (c_Mo_goes_r l D cI cZ cJ xMo H.size gMo r_1 1 1 r_3 gMo_4 hc_5) k_Mo_goes m_810 rfl rfl rfl rfl rfl (rp_all rfl rfl) ⟨by decide, by decide⟩ ⟨rfl, rfl⟩ rfl (Nat.le_of_ble_eq_true rfl) d_Mo_value_9 ⟨Nat.zero_le _, Nat.zero_le _⟩ (fun H locs hP hD hS => ?_)
  refine lv_if_eq (tgt := 29) hx hb d_Mo_value_12 (by decide) (fun c_6 => ?_) (fun c_6 => ?_)
  · rw [if_pos c_6] at h
    refine lv_iconst (v := 0) hx hb d_Mo_value_29 (by decide) ?_
    cases h
    rw [hQ]
    exact mi_ret C0 hr rfl hlk hP hD hS d_Mo_value_30
  · rw [if_neg c_6] at h
    refine lv_aload_n hx hb d_Mo_value_15 rfl (lv_at hl 0 rfl) ?_
    refine lv_bipush (v := 8) hx hb d_Mo_value_16 (by decide) ?_
    refine lv_iload_n hx hb d_Mo_value_18 rfl (lv_at hl 1 rfl) ?_
    refine lv_imul hx hb d_Mo_value_19 ?_
    refine lv_iload_n hx hb d_Mo_value_20 rfl (lv_at hl 2 rfl) ?_
    refine lv_iadd hx hb d_Mo_value_21 ?_
    refine lv_iload_n hx hb d_Mo_value_22 rfl (lv_at hl 3 rfl) ?_
    obtain ⟨r_7, hc_8, h⟩ := xv1_i h
    refine cVi (ws' := (wMo xMo cI cZ gMo_4)) (As := [.int ((8 * p1) + p2), .int p3]) (rest := []) C0 hP hD hS hl.1 [0, 1, 2, 3, 4, 5, 6, 7, 8, 9, 10, 11, 12, 13, 14, 15] (c_Mo_valueOf_r l D cI cZ cJ xMo H.size gMo_4 ((8 * p1) + p2) p3 r_7 hc_8) k_Mo_valueOf m_838 rfl rfl rfl rfl rfl (rp_same rfl) ⟨by decide, by decide⟩ ⟨rfl, rfl⟩ rfl (Nat.le_of_ble_eq_true rfl) d_Mo_value_23 ⟨Nat.zero_le _, Nat.zero_le _⟩ (fun H locs hP hD hS => ?_)
    refine lv_goto (tgt := 30) hx hb d_Mo_value_26 (by decide) ?_
    cases h
    rw [hQ]
    exact mi_ret C0 hr rfl hlk hP hD hS d_Mo_value_30
abbrev rm_Mo_thickness_r : Room := { frames := 2, cells := 0, slots := 0, locals := 45 }
set_option maxRecDepth 100000 in
set_option maxHeartbeats 4000000 in
theorem c_Mo_thickness_r (l : Launch) (D : va_G) (cI cZ cJ : ClassId) (xMo : Nat → Nat) (sz : Nat) (gMo : St) (p1 : Int32) (p2 : Int32) (p3 : Int32) (r : Int32) (gMo1 : St) (h : f_Mo_thickness gMo p1 p2 p3 = some (r, gMo1)) : MI l y_Mo_thickness b_Mo_thickness 9 (some .int) rm_Mo_thickness_r D (TYS cI cZ cJ) [.ref (xMo 0), .int p1, .int p2, .int p3] (wMo xMo cI cZ gMo) sz r (wMo xMo cI cZ gMo1) := by
  refine mi_start (own := R_Mo) (by decide +kernel) rfl (Nat.le_of_ble_eq_true rfl) (fun p e s m args below meth c A ls C0 hr hlk hP hD hS hl => ?_)
  obtain ⟨Q, hQ⟩ : ∃ Q, Q = QI below D (TYS cI cZ cJ) A (wMo xMo cI cZ gMo1) r args s := ⟨_, rfl⟩
  rw [← hQ]
  obtain ⟨hx, hb, -, hown, hts, hK, hE, -⟩ := id C0
  have hl : lv_has ls 9 [(0, .ref (xMo 0)), (1, .int p1), (2, .int p2), (3, .int p3)] := hl
  obtain ⟨H, hH⟩ : ∃ H, H = s.heap := ⟨_, rfl⟩
  have hP : va_P D vwCl (wMo xMo cI cZ gMo) H := by rw [hH]; exact hP
  have hS : va_S A s.heap H [] := by rw [hH]; exact hS
  rw [show W p l e rm_Mo_thickness_r s m args below meth c s.heap = W p l e rm_Mo_thickness_r s m args below meth c H by rw [hH]]
  generalize ([] : List Loc) = locs at hS ⊢
  unfold f_Mo_thickness at h
  refine lv_aload_n hx hb d_Mo_thickness_0 rfl (lv_at hl 0 rfl) ?_
  refine lv_iload_n hx hb d_Mo_thickness_1 rfl (lv_at hl 1 rfl) ?_
  refine lv_iconst (v := 0) hx hb d_Mo_thickness_2 (by decide) ?_
  refine lv_iconst (v := 3) hx hb d_Mo_thickness_3 (by decide) ?_
  obtain ⟨r_1, hc_2, h⟩ := xv1_i h
  refine cSi (ws' := (wMo xMo cI cZ gMo)) (As := [.int p1, .int 0, .int 3]) (rest := [.ref (xMo 0)]) C0 hP hD hS hl.1 [] (c_Mo_within_r l D cI cZ cJ  H.size p1 0 3 r_1 hc_2) k_Mo_within m_806 rfl rfl rfl (rp_same rfl) ⟨by decide, by decide⟩ ⟨rfl, rfl⟩ rfl (Nat.le_of_ble_eq_true rfl) d_Mo_thickness_4 ⟨Nat.zero_le _, Nat.zero_le _⟩ (fun H locs hP hD hS => ?_)
  refine lv_iconst (v := 1) hx hb d_Mo_thickness_7 (by decide) ?_
  refine lv_iconst (v := 1) hx hb d_Mo_thickness_8 (by decide) ?_
  obtain ⟨r_3, gMo_4, hc_5, h⟩ := xv2_i h
  refine cVi (ws' := (wMo xMo cI cZ gMo_4)) (As := [.int r_1, .int 1, .int 1]) (rest := []) C0 hP hD hS hl.1 [0, 1, 2, 3, 4, 5, 6, 7, 8, 9, 10, 11, 12, 13, 14, 15] (c_Mo_goes_r l D cI cZ cJ xMo H.size gMo r_1 1 1 r_3 gMo_4 hc_5) k_Mo_goes m_810 rfl rfl rfl rfl rfl (rp_all rfl rfl) ⟨by decide, by decide⟩ ⟨rfl, rfl⟩ rfl (Nat.le_of_ble_eq_true rfl) d_Mo_thickness_9 ⟨Nat.zero_le _, Nat.zero_le _⟩ (fun H locs hP hD hS => ?_)
  refine lv_if_ne (tgt := 17) hx hb d_Mo_thickness_12 (by decide) (fun c_6 => ?_) (fun c_6 => ?_)
  · rw [if_neg c_6] at h
    refine lv_iconst (v := 0) hx hb d_Mo_thickness_17 (by decide) ?_
    refine lv_istore (lv' := [(4, .int 0), (0, .ref (xMo 0)), (1, .int p1), (2, .int p2), (3, .int p3)]) hx hb d_Mo_thickness_18 hl (by decide) rfl (fun ls hl => ?_)
    refine lv_aload_n hx hb d_Mo_thickness_20 rfl (lv_at hl 1 rfl) ?_
    refine va_get (ci := 8) (v := .ref (xMo 4)) (C := R_Mo) (T := F_Mo) (N := 31) hx hb hts i_Mo hown hK hP 0 rfl rfl 5 (by decide) (hts _ m_709) (fun _ h9 => h9) rfl d_Mo_thickness_21 ?_
    refine lv_iload_n hx hb d_Mo_thickness_24 rfl (lv_at hl 2 rfl) ?_
    obtain ⟨hi_7, h⟩ := gb_i h
    refine va_iald hx hb hK hP 4 0 rfl rfl (inb_in hi_7) d_Mo_thickness_25 ?_
    obtain ⟨x_8, ex_8, h⟩ := letb_i h
    refine lv_topn ex_8 ?_
    refine lv_istore (lv' := [(5, .int x_8), (4, .int 0), (0, .ref (xMo 0)), (1, .int p1), (2, .int p2), (3, .int p3)]) hx hb d_Mo_thickness_26 hl (by decide) rfl (fun ls hl => ?_)
    have K110 : ∀ (v4_110 : Int32) (v5_110 : Int32) (gMo_110 : St) (H : Heap) (locs : List Loc) (ls : Array Slot), va_P D vwCl (wMo xMo cI cZ gMo_110) H → va_D A (wMo xMo cI cZ gMo_110) → va_S A s.heap H locs → lv_has ls 9 [(0, .ref (xMo 0)), (1, .int p1), (2, .int p2), (3, .int p3), (4, .int v4_110), (5, .int v5_110)] → f_Mo_thickness_X110 p1 v4_110 v5_110 gMo_110 = some (r, gMo1) → W p l e rm_Mo_thickness_r s m args below meth c H locs 0 0 Q (F0 m 110 ls []) := by
      intro v4_110 v5_110 gMo_110 H locs ls hP hD hS hl h
      unfold f_Mo_thickness_X110 at h
      refine lv_iload hx hb d_Mo_thickness_110 (lv_at hl 4 rfl) ?_
      refine lv_aload_n hx hb d_Mo_thickness_112 rfl (lv_at hl 0 rfl) ?_
      refine va_get (ci := 8) (v := .ref (xMo 4)) (C := R_Mo) (T := F_Mo) (N := 31) hx hb hts i_Mo hown hK hP 0 rfl rfl 5 (by decide) (hts _ m_709) (fun _ h9 => h9) rfl d_Mo_thickness_113 ?_
      refine lv_iload_n hx hb d_Mo_thickness_116 rfl (lv_at hl 1 rfl) ?_
      obtain ⟨hi_9, h⟩ := gb_i h
      refine va_iald hx hb hK hP 4 0 rfl rfl (inb_in hi_9) d_Mo_thickness_117 ?_
      obtain ⟨x_10, ex_10, h⟩ := letb_i h
      refine lv_topn ex_10 ?_
      refine lv_icmp_ge (tgt := 136) hx hb d_Mo_thickness_118 (by decide) (fun c_11 => ?_) (fun c_11 => ?_)
      · rw [if_pos c_11] at h
        refine lv_iconst (v := (-1)) hx hb d_Mo_thickness_136 (by decide) ?_
        cases h
        rw [hQ]
        exact mi_ret C0 hr rfl hlk hP hD hS d_Mo_thickness_137
      · rw [if_neg c_11] at h
        refine lv_aload_n hx hb d_Mo_thickness_121 rfl (lv_at hl 0 rfl) ?_
        refine va_get (ci := 8) (v := .ref (xMo 5)) (C := R_Mo) (T := F_Mo) (N := 31) hx hb hts i_Mo hown hK hP 0 rfl rfl 6 (by decide) (hts _ m_710) (fun _ h9 => h9) rfl d_Mo_thickness_122 ?_
        refine lv_bipush (v := 8) hx hb d_Mo_thickness_125 (by decide) ?_
        refine lv_iload_n hx hb d_Mo_thickness_127 rfl (lv_at hl 1 rfl) ?_
        refine lv_imul hx hb d_Mo_thickness_128 ?_
        refine lv_iload hx hb d_Mo_thickness_129 (lv_at hl 4 rfl) ?_
        refine lv_iadd hx hb d_Mo_thickness_131 ?_
        obtain ⟨hi_12, h⟩ := gb_i h
        refine va_iald hx hb hK hP 5 0 rfl rfl (inb_in hi_12) d_Mo_thickness_132 ?_
        obtain ⟨x_13, ex_13, h⟩ := letb_i h
        refine lv_topn ex_13 ?_
        refine lv_goto (tgt := 137) hx hb d_Mo_thickness_133 (by decide) ?_
        cases h
        rw [hQ]
        exact mi_ret C0 hr rfl hlk hP hD hS d_Mo_thickness_137
    have K28 : ∀ (n : Nat) (v4_28 : Int32) (v5_28 : Int32) (gMo_28 : St) (H : Heap) (locs : List Loc) (ls : Array Slot), va_P D vwCl (wMo xMo cI cZ gMo_28) H → va_D A (wMo xMo cI cZ gMo_28) → va_S A s.heap H locs → lv_has ls 9 [(0, .ref (xMo 0)), (1, .int p1), (2, .int p2), (3, .int p3), (4, .int v4_28), (5, .int v5_28)] → it3 (f_Mo_thickness_L28 p1 p2 p3) n v4_28 v5_28 gMo_28 = some (r, gMo1) → W p l e rm_Mo_thickness_r s m args below meth c H locs 0 0 Q (F0 m 28 ls []) := by
      intro n
      induction n with
      | zero => intro v4_28 v5_28 gMo_28 H locs ls hP hD hS hl h; exact (it3_0 h).elim
      | succ n ih =>
        intro v4_28 v5_28 gMo_28 H locs ls hP hD hS hl h
        rw [it3_s, f_Mo_thickness_L28] at h
        generalize it3 (f_Mo_thickness_L28 p1 p2 p3) n = kc_28 at h ih
        refine lv_iload hx hb d_Mo_thickness_28 (lv_at hl 4 rfl) ?_
        refine lv_iload hx hb d_Mo_thickness_30 (lv_at hl 5 rfl) ?_
        refine lv_icmp_ge (tgt := 110) hx hb d_Mo_thickness_32 (by decide) (fun c_14 => ?_) (fun c_14 => ?_)
        · rw [if_pos c_14] at h
          exact K110 v4_28 v5_28 gMo_28 H locs ls hP hD hS (lv_sub hl [0, 1, 2, 3, 4, 5] rfl) h
        · rw [if_neg c_14] at h
          refine lv_iload hx hb d_Mo_thickness_35 (lv_at hl 4 rfl) ?_
          refine lv_iload hx hb d_Mo_thickness_37 (lv_at hl 5 rfl) ?_
          refine lv_iadd hx hb d_Mo_thickness_39 ?_
          refine lv_iconst (v := 2) hx hb d_Mo_thickness_40 (by decide) ?_
          refine lv_idiv hx hb d_Mo_thickness_41 (by decide) ?_
          obtain ⟨x_15, ex_15, h⟩ := letb_i h
          refine lv_topn ex_15 ?_
          refine lv_istore (lv' := [(6, .int x_15), (0, .ref (xMo 0)), (1, .int p1), (2, .int p2), (3, .int p3), (4, .int v4_28), (5, .int v5_28)]) hx hb d_Mo_thickness_42 hl (by decide) rfl (fun ls hl => ?_)
          refine lv_aload_n hx hb d_Mo_thickness_44 rfl (lv_at hl 1 rfl) ?_
          refine lv_bipush (v := 8) hx hb d_Mo_thickness_45 (by decide) ?_
          refine lv_iload_n hx hb d_Mo_thickness_47 rfl (lv_at hl 2 rfl) ?_
          refine lv_imul hx hb d_Mo_thickness_48 ?_
          refine lv_iload hx hb d_Mo_thickness_49 (lv_at hl 0 rfl) ?_
          refine lv_iadd hx hb d_Mo_thickness_51 ?_
          refine lv_iload_n hx hb d_Mo_thickness_52 rfl (lv_at hl 3 rfl) ?_
          obtain ⟨r_16, hc_17, h⟩ := xv1_i h
          refine cVi (ws' := (wMo xMo cI cZ gMo_28)) (As := [.int ((8 * p1) + x_15), .int p2]) (rest := []) C0 hP hD hS hl.1 [0, 1, 2, 3, 4, 5, 6, 7, 8, 9, 10, 11, 12, 13, 14, 15] (c_Mo_valueOf_r l D cI cZ cJ xMo H.size gMo_28 ((8 * p1) + x_15) p2 r_16 hc_17) k_Mo_valueOf m_838 rfl rfl rfl rfl rfl (rp_same rfl) ⟨by decide, by decide⟩ ⟨rfl, rfl⟩ rfl (Nat.le_of_ble_eq_true rfl) d_Mo_thickness_53 ⟨Nat.zero_le _, Nat.zero_le _⟩ (fun H locs hP hD hS => ?_)
          refine lv_istore (lv' := [(7, .int r_16), (6, .int x_15), (0, .ref (xMo 0)), (1, .int p1), (2, .int p2), (3, .int p3), (4, .int v4_28), (5, .int v5_28)]) hx hb d_Mo_thickness_56 hl (by decide) rfl (fun ls hl => ?_)
          refine lv_iload hx hb d_Mo_thickness_58 (lv_at hl 0 rfl) ?_
          refine lv_iconst (v := (-1)) hx hb d_Mo_thickness_60 (by decide) ?_
          have K75 : ∀ (s0_75 : Int32) (v4_75 : Int32) (v5_75 : Int32) (v6_75 : Int32) (v7_75 : Int32) (gMo_75 : St) (H : Heap) (locs : List Loc) (ls : Array Slot), va_P D vwCl (wMo xMo cI cZ gMo_75) H → va_D A (wMo xMo cI cZ gMo_75) → va_S A s.heap H locs → lv_has ls 9 [(0, .ref (xMo 0)), (1, .int p1), (2, .int p2), (3, .int p3), (4, .int v4_75), (5, .int v5_75), (6, .int v6_75), (7, .int v7_75)] → f_Mo_thickness_J75 kc_28 s0_75 v4_75 v5_75 v6_75 v7_75 gMo_75 = some (r, gMo1) → W p l e rm_Mo_thickness_r s m args below meth c H locs 0 0 Q (F0 m 75 ls [.int s0_75]) := by
            intro s0_75 v4_75 v5_75 v6_75 v7_75 gMo_75 H locs ls hP hD hS hl h
            unfold f_Mo_thickness_J75 at h
            refine lv_istore (lv' := [(8, .int s0_75), (0, .ref (xMo 0)), (1, .int p1), (2, .int p2), (3, .int p3), (4, .int v4_75), (5, .int v5_75), (6, .int v6_75), (7, .int v7_75)]) hx hb d_Mo_thickness_75 hl (by decide) rfl (fun ls hl => ?_)
            refine lv_iload hx hb d_Mo_thickness_77 (lv_at hl 0 rfl) ?_
            have K89 : ∀ (s0_89 : Int32) (v4_89 : Int32) (v5_89 : Int32) (v6_89 : Int32) (v7_89 : Int32) (v8_89 : Int32) (gMo_89 : St) (H : Heap) (locs : List Loc) (ls : Array Slot), va_P D vwCl (wMo xMo cI cZ gMo_89) H → va_D A (wMo xMo cI cZ gMo_89) → va_S A s.heap H locs → lv_has ls 9 [(0, .ref (xMo 0)), (1, .int p1), (2, .int p2), (3, .int p3), (4, .int v4_89), (5, .int v5_89), (6, .int v6_89), (7, .int v7_89), (8, .int v8_89)] → f_Mo_thickness_J89 kc_28 s0_89 v4_89 v5_89 v6_89 v7_89 v8_89 gMo_89 = some (r, gMo1) → W p l e rm_Mo_thickness_r s m args below meth c H locs 0 0 Q (F0 m 89 ls [.int s0_89]) := by
              intro s0_89 v4_89 v5_89 v6_89 v7_89 v8_89 gMo_89 H locs ls hP hD hS hl h
              unfold f_Mo_thickness_J89 at h
              refine lv_istore (lv' := [(5, .int s0_89), (0, .ref (xMo 0)), (1, .int p1), (2, .int p2), (3, .int p3), (4, .int v4_89), (6, .int v6_89), (7, .int v7_89), (8, .int v8_89)]) hx hb d_Mo_thickness_89 hl (by decide) rfl (fun ls hl => ?_)
              refine lv_iload hx hb d_Mo_thickness_91 (lv_at hl 8 rfl) ?_
              have K105 : ∀ (s0_105 : Int32) (v4_105 : Int32) (v5_105 : Int32) (v6_105 : Int32) (v7_105 : Int32) (v8_105 : Int32) (gMo_105 : St) (H : Heap) (locs : List Loc) (ls : Array Slot), va_P D vwCl (wMo xMo cI cZ gMo_105) H → va_D A (wMo xMo cI cZ gMo_105) → va_S A s.heap H locs → lv_has ls 9 [(0, .ref (xMo 0)), (1, .int p1), (2, .int p2), (3, .int p3), (4, .int v4_105), (5, .int v5_105), (6, .int v6_105), (7, .int v7_105), (8, .int v8_105)] → f_Mo_thickness_J105 kc_28 s0_105 v4_105 v5_105 v6_105 v7_105 v8_105 gMo_105 = some (r, gMo1) → W p l e rm_Mo_thickness_r s m args below meth c H locs 0 0 Q (F0 m 105 ls [.int s0_105]) := by
                intro s0_105 v4_105 v5_105 v6_105 v7_105 v8_105 gMo_105 H locs ls hP hD hS hl h
                unfold f_Mo_thickness_J105 at h
                refine lv_istore (lv' := [(4, .int s0_105), (0, .ref (xMo 0)), (1, .int p1), (2, .int p2), (3, .int p3), (5, .int v5_105), (6, .int v6_105), (7, .int v7_105), (8, .int v8_105)]) hx hb d_Mo_thickness_105 hl (by decide) rfl (fun ls hl => ?_)
                refine lv_goto (tgt := 28) hx hb d_Mo_thickness_107 (by decide) ?_
                exact ih s0_105 v5_105 gMo_105 H locs ls hP hD hS (lv_sub hl [1, 2, 3, 4, 0, 5] rfl) h
              refine lv_if_eq (tgt := 101) hx hb d_Mo_thickness_93 (by decide) (fun c_18 => ?_) (fun c_18 => ?_)
              · rw [if_pos c_18] at h
                refine lv_iload hx hb d_Mo_thickness_101 (lv_at hl 6 rfl) ?_
                refine lv_iconst (v := 1) hx hb d_Mo_thickness_103 (by decide) ?_
                refine lv_iadd hx hb d_Mo_thickness_104 ?_
                exact K105 (v6_89 + 1) v4_89 s0_89 v6_89 v7_89 v8_89 gMo_89 H locs ls hP hD hS (lv_sub hl [1, 2, 3, 4, 5, 0, 6, 7, 8] rfl) h
              · rw [if_neg c_18] at h
                refine lv_iload hx hb d_Mo_thickness_96 (lv_at hl 5 rfl) ?_
                refine lv_goto (tgt := 105) hx hb d_Mo_thickness_98 (by decide) ?_
                exact K105 v4_89 v4_89 s0_89 v6_89 v7_89 v8_89 gMo_89 H locs ls hP hD hS (lv_sub hl [1, 2, 3, 4, 5, 0, 6, 7, 8] rfl) h
            refine lv_if_eq (tgt := 87) hx hb d_Mo_thickness_79 (by decide) (fun c_19 => ?_) (fun c_19 => ?_)
            · rw [if_pos c_19] at h
              refine lv_iload hx hb d_Mo_thickness_87 (lv_at hl 6 rfl) ?_
              exact K89 v5_75 v4_75 v5_75 v6_75 v7_75 s0_75 gMo_75 H locs ls hP hD hS (lv_sub hl [1, 2, 3, 4, 5, 6, 7, 8, 0] rfl) h
            · rw [if_neg c_19] at h
              refine lv_iload hx hb d_Mo_thickness_82 (lv_at hl 7 rfl) ?_
              refine lv_goto (tgt := 89) hx hb d_Mo_thickness_84 (by decide) ?_
              exact K89 v6_75 v4_75 v5_75 v6_75 v7_75 s0_75 gMo_75 H locs ls hP hD hS (lv_sub hl [1, 2, 3, 4, 5, 6, 7, 8, 0] rfl) h
          have K74 : ∀ (v4_74 : Int32) (v5_74 : Int32) (v6_74 : Int32) (v7_74 : Int32) (gMo_74 : St) (H : Heap) (locs : List Loc) (ls : Array Slot), va_P D vwCl (wMo xMo cI cZ gMo_74) H → va_D A (wMo xMo cI cZ gMo_74) → va_S A s.heap H locs → lv_has ls 9 [(0, .ref (xMo 0)), (1, .int p1), (2, .int p2), (3, .int p3), (4, .int v4_74), (5, .int v5_74), (6, .int v6_74), (7, .int v7_74)] → f_Mo_thickness_J74 kc_28 v4_74 v5_74 v6_74 v7_74 gMo_74 = some (r, gMo1) → W p l e rm_Mo_thickness_r s m args below meth c H locs 0 0 Q (F0 m 74 ls []) := by
            intro v4_74 v5_74 v6_74 v7_74 gMo_74 H locs ls hP hD hS hl h
            unfold f_Mo_thickness_J74 at h
            refine lv_iconst (v := 0) hx hb d_Mo_thickness_74 (by decide) ?_
            exact K75 0 v4_74 v5_74 v6_74 v7_74 gMo_74 H locs ls hP hD hS (lv_sub hl [0, 1, 2, 3, 4, 5, 6, 7] rfl) h
          refine lv_icmp_eq (tgt := 74) hx hb d_Mo_thickness_61 (by decide) (fun c_20 => ?_) (fun c_20 => ?_)
          · rw [if_pos c_20] at h
            exact K74 v4_28 v5_28 x_15 r_16 gMo_28 H locs ls hP hD hS (lv_sub hl [2, 3, 4, 5, 6, 7, 1, 0] rfl) h
          · rw [if_neg c_20] at h
            refine lv_iload hx hb d_Mo_thickness_64 (lv_at hl 0 rfl) ?_
            refine lv_iload_n hx hb d_Mo_thickness_66 rfl (lv_at hl 5 rfl) ?_
            refine lv_icmp_gt (tgt := 74) hx hb d_Mo_thickness_67 (by decide) (fun c_21 => ?_) (fun c_21 => ?_)
            · rw [if_pos c_21] at h
              exact K74 v4_28 v5_28 x_15 r_16 gMo_28 H locs ls hP hD hS (lv_sub hl [2, 3, 4, 5, 6, 7, 1, 0] rfl) h
            · rw [if_neg c_21] at h
              refine lv_iconst (v := 1) hx hb d_Mo_thickness_70 (by decide) ?_
              refine lv_goto (tgt := 75) hx hb d_Mo_thickness_71 (by decide) ?_
              exact K75 1 v4_28 v5_28 x_15 r_16 gMo_28 H locs ls hP hD hS (lv_sub hl [2, 3, 4, 5, 6, 7, 1, 0] rfl) h
    exact K28 FU 0 x_8 gMo_4 H locs ls hP hD hS (lv_sub hl [2, 3, 4, 5, 1, 0] rfl) h
  · rw [if_pos c_6] at h
    refine lv_iconst (v := 0) hx hb d_Mo_thickness_15 (by decide) ?_
    cases h
    rw [hQ]
    exact mi_ret C0 hr rfl hlk hP hD hS d_Mo_thickness_16
abbrev rm_Mo_isIn_r : Room := { frames := 0, cells := 0, slots := 0, locals := 0 }
set_option maxRecDepth 100000 in
set_option maxHeartbeats 4000000 in
theorem c_Mo_isIn_r (l : Launch) (D : va_G) (cI cZ cJ : ClassId)  (sz : Nat)  (p1 : Int32) (p2 : Int32) (r : Int32) (h : f_Mo_isIn p1 p2 = some r) : MI l y_Mo_isIn b_Mo_isIn 2 (some .boolean) rm_Mo_isIn_r D (TYS cI cZ cJ) [.int p1, .int p2] ([] : va_W) sz r ([] : va_W) := by
  refine mi_start (own := R_Mo) (by decide +kernel) rfl (Nat.le_of_ble_eq_true rfl) (fun p e s m args below meth c A ls C0 hr hlk hP hD hS hl => ?_)
  obtain ⟨Q, hQ⟩ : ∃ Q, Q = QI below D (TYS cI cZ cJ) A ([] : va_W) r args s := ⟨_, rfl⟩
  rw [← hQ]
  obtain ⟨hx, hb, -, hown, hts, hK, hE, -⟩ := id C0
  have hl : lv_has ls 2 [(0, .int p1), (1, .int p2)] := hl
  obtain ⟨H, hH⟩ : ∃ H, H = s.heap := ⟨_, rfl⟩
  have hP : va_P D vwCl ([] : va_W) H := by rw [hH]; exact hP
  have hS : va_S A s.heap H [] := by rw [hH]; exact hS
  rw [show W p l e rm_Mo_isIn_r s m args below meth c s.heap = W p l e rm_Mo_isIn_r s m args below meth c H by rw [hH]]
  generalize ([] : List Loc) = locs at hS ⊢
  unfold f_Mo_isIn at h
  refine lv_iload_n hx hb d_Mo_isIn_0 rfl (lv_at hl 0 rfl) ?_
  refine lv_iload_n hx hb d_Mo_isIn_1 rfl (lv_at hl 1 rfl) ?_
  refine lv_ishr hx hb d_Mo_isIn_2 ?_
  refine lv_iconst (v := 1) hx hb d_Mo_isIn_3 (by decide) ?_
  refine lv_iand hx hb d_Mo_isIn_4 ?_
  refine lv_iconst (v := 1) hx hb d_Mo_isIn_5 (by decide) ?_
  refine lv_icmp_ne (tgt := 13) hx hb d_Mo_isIn_6 (by decide) (fun c_1 => ?_) (fun c_1 => ?_)
  · rw [if_neg c_1] at h
    refine lv_iconst (v := 0) hx hb d_Mo_isIn_13 (by decide) ?_
    cases h
    rw [hQ]
    exact mi_ret C0 hr rfl hlk hP hD hS d_Mo_isIn_14
  · rw [if_pos c_1] at h
    refine lv_iconst (v := 1) hx hb d_Mo_isIn_9 (by decide) ?_
    refine lv_goto (tgt := 14) hx hb d_Mo_isIn_10 (by decide) ?_
    cases h
    rw [hQ]
    exact mi_ret C0 hr rfl hlk hP hD hS d_Mo_isIn_14
abbrev rm_Mo_turn_r : Room := { frames := 1, cells := 0, slots := 0, locals := 21 }
set_option maxRecDepth 100000 in
set_option maxHeartbeats 4000000 in
theorem c_Mo_turn_r (l : Launch) (D : va_G) (cI cZ cJ : ClassId) (xMo : Nat → Nat) (sz : Nat) (gMo : St) (p1 : Int32) (p2 : Int32) (gMo1 : St) (h : f_Mo_turn gMo p1 p2 = some gMo1) : MV l y_Mo_turn b_Mo_turn 5 (Option.none : Option Jvm.ClassFile.FieldType) rm_Mo_turn_r D (TYS cI cZ cJ) [.ref (xMo 0), .int p1, .int p2] (wMo xMo cI cZ gMo) sz (wMo xMo cI cZ gMo1) := by
  refine mv_start (own := R_Mo) (by decide +kernel) rfl (Nat.le_of_ble_eq_true rfl) (fun p e s m args below meth c A ls C0 hr hlk hP hD hS hl => ?_)
  obtain ⟨Q, hQ⟩ : ∃ Q, Q = QV below D (TYS cI cZ cJ) A (wMo xMo cI cZ gMo1) args s := ⟨_, rfl⟩
  rw [← hQ]
  obtain ⟨hx, hb, -, hown, hts, hK, hE, -⟩ := id C0
  have hl : lv_has ls 5 [(0, .ref (xMo 0)), (1, .int p1), (2, .int p2)] := hl
  obtain ⟨H, hH⟩ : ∃ H, H = s.heap := ⟨_, rfl⟩
  have hP : va_P D vwCl (wMo xMo cI cZ gMo) H := by rw [hH]; exact hP
  have hS : va_S A s.heap H [] := by rw [hH]; exact hS
  rw [show W p l e rm_Mo_turn_r s m args below meth c s.heap = W p l e rm_Mo_turn_r s m args below meth c H by rw [hH]]
  generalize ([] : List Loc) = locs at hS ⊢
  unfold f_Mo_turn at h
  refine lv_iload_n hx hb d_Mo_turn_0 rfl (lv_at hl 2 rfl) ?_
  refine lv_istore_n (lv' := [(3, .int p2), (0, .ref (xMo 0)), (1, .int p1), (2, .int p2)]) hx hb d_Mo_turn_1 rfl hl (by decide) rfl (fun ls hl => ?_)
  refine lv_iconst (v := 5) hx hb d_Mo_turn_2 (by decide) ?_
  refine lv_istore (lv' := [(4, .int 5), (3, .int p2), (0, .ref (xMo 0)), (1, .int p1), (2, .int p2)]) hx hb d_Mo_turn_3 hl (by decide) rfl (fun ls hl => ?_)
  have K58 : ∀ (v3_58 : Int32) (v4_58 : Int32) (gMo_58 : St) (H : Heap) (locs : List Loc) (ls : Array Slot), va_P D vwCl (wMo xMo cI cZ gMo_58) H → va_D A (wMo xMo cI cZ gMo_58) → va_S A s.heap H locs → lv_has ls 5 [(0, .ref (xMo 0)), (1, .int p1), (2, .int p2), (3, .int v3_58), (4, .int v4_58)] → f_Mo_turn_X58 v3_58 v4_58 gMo_58 = some gMo1 → W p l e rm_Mo_turn_r s m args below meth c H locs 0 0 Q (F0 m 58 ls []) := by
    intro v3_58 v4_58 gMo_58 H locs ls hP hD hS hl h
    unfold f_Mo_turn_X58 at h
    cases h
    rw [hQ]
    exact mv_ret C0 hr hlk hP hD hS d_Mo_turn_58
  have K5 : ∀ (n : Nat) (v3_5 : Int32) (v4_5 : Int32) (gMo_5 : St) (H : Heap) (locs : List Loc) (ls : Array Slot), va_P D vwCl (wMo xMo cI cZ gMo_5) H → va_D A (wMo xMo cI cZ gMo_5) → va_S A s.heap H locs → lv_has ls 5 [(0, .ref (xMo 0)), (1, .int p1), (2, .int p2), (3, .int v3_5), (4, .int v4_5)] → it3 (f_Mo_turn_L5 p1) n v3_5 v4_5 gMo_5 = some gMo1 → W p l e rm_Mo_turn_r s m args below meth c H locs 0 0 Q (F0 m 5 ls []) := by
    intro n
    induction n with
    | zero => intro v3_5 v4_5 gMo_5 H locs ls hP hD hS hl h; exact (it3_0 h).elim
    | succ n ih =>
      intro v3_5 v4_5 gMo_5 H locs ls hP hD hS hl h
      rw [it3_s, f_Mo_turn_L5] at h
      generalize it3 (f_Mo_turn_L5 p1) n = kc_5 at h ih
      refine lv_iload hx hb d_Mo_turn_5 (lv_at hl 4 rfl) ?_
      refine lv_if_lt (tgt := 58) hx hb d_Mo_turn_7 (by decide) (fun c_1 => ?_) (fun c_1 => ?_)
      · rw [if_pos c_1] at h
        exact K58 v3_5 v4_5 gMo_5 H locs ls hP hD hS (lv_sub hl [0, 1, 2, 3, 4] rfl) h
      · rw [if_neg c_1] at h
        refine lv_aload_n hx hb d_Mo_turn_10 rfl (lv_at hl 0 rfl) ?_
        refine va_get (ci := 8) (v := .ref (xMo 10)) (C := R_Mo) (T := F_Mo) (N := 31) hx hb hts i_Mo hown hK hP 0 rfl rfl 12 (by decide) (hts _ m_716) (fun _ h9 => h9) rfl d_Mo_turn_11 ?_
        refine lv_iload hx hb d_Mo_turn_14 (lv_at hl 4 rfl) ?_
        refine lv_iload_n hx hb d_Mo_turn_16 rfl (lv_at hl 1 rfl) ?_
        refine lv_iload hx hb d_Mo_turn_17 (lv_at hl 4 rfl) ?_
        obtain ⟨r_2, hc_3, h⟩ := xv1_i h
        refine cSi (ws' := (wMo xMo cI cZ gMo_5)) (As := [.int p1, .int v4_5]) (rest := [.int v4_5, .ref (xMo 10)]) C0 hP hD hS hl.1 [] (c_Mo_isIn_r l D cI cZ cJ  H.size p1 v4_5 r_2 hc_3) k_Mo_isIn m_853 rfl rfl rfl (rp_same rfl) ⟨by decide, by decide⟩ ⟨rfl, rfl⟩ rfl (Nat.le_of_ble_eq_true rfl) d_Mo_turn_19 ⟨Nat.zero_le _, Nat.zero_le _⟩ (fun H locs hP hD hS => ?_)
        have K33 : ∀ (s1_33 : Int32) (s2_33 : Int32) (v3_33 : Int32) (v4_33 : Int32) (gMo_33 : St) (H : Heap) (locs : List Loc) (ls : Array Slot), va_P D vwCl (wMo xMo cI cZ gMo_33) H → va_D A (wMo xMo cI cZ gMo_33) → va_S A s.heap H locs → lv_has ls 5 [(0, .ref (xMo 0)), (1, .int p1), (2, .int p2), (3, .int v3_33), (4, .int v4_33)] → f_Mo_turn_J33 p1 kc_5 gMo_5 s1_33 s2_33 v3_33 v4_33 gMo_33 = some gMo1 → W p l e rm_Mo_turn_r s m args below meth c H locs 0 0 Q (F0 m 33 ls [.int s2_33, .int s1_33, .ref (xMo 10)]) := by
          intro s1_33 s2_33 v3_33 v4_33 gMo_33 H locs ls hP hD hS hl h
          unfold f_Mo_turn_J33 at h
          obtain ⟨hi_4, h⟩ := gb_i h
          refine va_iast hx hb hK hP hD hS 10 0 rfl rfl (inb_in hi_4) d_Mo_turn_33 (fun H locs hP hD hS => ?_)
          obtain ⟨gMo_5, egMo_5, h⟩ := letb_i h
          have hP : va_P D vwCl (wMo xMo cI cZ gMo_5) H := by rw [egMo_5, u_Mo_10]; exact hP
          have hD : va_D A (wMo xMo cI cZ gMo_5) := by rw [egMo_5, u_Mo_10]; exact hD
          refine lv_iload_n hx hb d_Mo_turn_34 rfl (lv_at hl 1 rfl) ?_
          refine lv_iload hx hb d_Mo_turn_35 (lv_at hl 4 rfl) ?_
          obtain ⟨r_6, hc_7, h⟩ := xv1_i h
          refine cSi (ws' := (wMo xMo cI cZ gMo_5)) (As := [.int p1, .int v4_33]) (rest := []) C0 hP hD hS hl.1 [] (c_Mo_isIn_r l D cI cZ cJ  H.size p1 v4_33 r_6 hc_7) k_Mo_isIn m_853 rfl rfl rfl (rp_same rfl) ⟨by decide, by decide⟩ ⟨rfl, rfl⟩ rfl (Nat.le_of_ble_eq_true rfl) d_Mo_turn_37 ⟨Nat.zero_le _, Nat.zero_le _⟩ (fun H locs hP hD hS => ?_)
          have K51 : ∀ (s0_51 : Int32) (v3_51 : Int32) (v4_51 : Int32) (gMo_51 : St) (H : Heap) (locs : List Loc) (ls : Array Slot), va_P D vwCl (wMo xMo cI cZ gMo_51) H → va_D A (wMo xMo cI cZ gMo_51) → va_S A s.heap H locs → lv_has ls 5 [(0, .ref (xMo 0)), (1, .int p1), (2, .int p2), (3, .int v3_51), (4, .int v4_51)] → f_Mo_turn_J51 kc_5 s0_51 v3_51 v4_51 gMo_51 = some gMo1 → W p l e rm_Mo_turn_r s m args below meth c H locs 0 0 Q (F0 m 51 ls [.int s0_51]) := by
            intro s0_51 v3_51 v4_51 gMo_51 H locs ls hP hD hS hl h
            unfold f_Mo_turn_J51 at h
            refine lv_istore_n (lv' := [(3, .int s0_51), (0, .ref (xMo 0)), (1, .int p1), (2, .int p2), (4, .int v4_51)]) hx hb d_Mo_turn_51 rfl hl (by decide) rfl (fun ls hl => ?_)
            obtain ⟨x_8, ex_8, h⟩ := letb_i h
            refine lv_iinc (v := x_8) (lv' := [(4, .int x_8), (3, .int s0_51), (0, .ref (xMo 0)), (1, .int p1), (2, .int p2)]) hx hb d_Mo_turn_52 hl (k := 4) rfl (by rw [ex_8]; rfl) (by decide) rfl (fun ls hl => ?_)
            refine lv_goto (tgt := 5) hx hb d_Mo_turn_55 (by decide) ?_
            exact ih s0_51 x_8 gMo_51 H locs ls hP hD hS (lv_sub hl [2, 3, 4, 1, 0] rfl) h
          refine lv_if_eq (tgt := 50) hx hb d_Mo_turn_40 (by decide) (fun c_9 => ?_) (fun c_9 => ?_)
          · rw [if_pos c_9] at h
            refine lv_iload_n hx hb d_Mo_turn_50 rfl (lv_at hl 3 rfl) ?_
            exact K51 v3_33 v3_33 v4_33 gMo_5 H locs ls hP hD hS (lv_sub hl [0, 1, 2, 3, 4] rfl) h
          · rw [if_neg c_9] at h
            refine lv_iload_n hx hb d_Mo_turn_43 rfl (lv_at hl 3 rfl) ?_
            refine lv_bipush (v := 6) hx hb d_Mo_turn_44 (by decide) ?_
            refine lv_idiv hx hb d_Mo_turn_46 (by decide) ?_
            refine lv_goto (tgt := 51) hx hb d_Mo_turn_47 (by decide) ?_
            exact K51 (v3_33 / 6) v3_33 v4_33 gMo_5 H locs ls hP hD hS (lv_sub hl [0, 1, 2, 3, 4] rfl) h
        refine lv_if_eq (tgt := 32) hx hb d_Mo_turn_22 (by decide) (fun c_10 => ?_) (fun c_10 => ?_)
        · rw [if_pos c_10] at h
          refine lv_iconst (v := (-1)) hx hb d_Mo_turn_32 (by decide) ?_
          exact K33 v4_5 (-1) v3_5 v4_5 gMo_5 H locs ls hP hD hS (lv_sub hl [0, 1, 2, 3, 4] rfl) h
        · rw [if_neg c_10] at h
          refine lv_iload_n hx hb d_Mo_turn_25 rfl (lv_at hl 3 rfl) ?_
          refine lv_bipush (v := 6) hx hb d_Mo_turn_26 (by decide) ?_
          refine lv_irem hx hb d_Mo_turn_28 (by decide) ?_
          refine lv_goto (tgt := 33) hx hb d_Mo_turn_29 (by decide) ?_
          exact K33 v4_5 (v3_5 - v3_5 / 6 * 6) v3_5 v4_5 gMo_5 H locs ls hP hD hS (lv_sub hl [0, 1, 2, 3, 4] rfl) h
  exact K5 FU p2 5 gMo H locs ls hP hD hS (lv_sub hl [2, 3, 4, 1, 0] rfl) h
abbrev rm_Mo_stands_r : Room := { frames := 1, cells := 0, slots := 0, locals := 21 }
set_option maxRecDepth 100000 in
set_option maxHeartbeats 4000000 in
theorem c_Mo_stands_r (l : Launch) (D : va_G) (cI cZ cJ : ClassId) (xMo : Nat → Nat) (sz : Nat) (gMo : St) (p1 : Int32) (r : Int32) (h : f_Mo_stands gMo p1 = some r) : MI l y_Mo_stands b_Mo_stands 4 (some .boolean) rm_Mo_stands_r D (TYS cI cZ cJ) [.ref (xMo 0), .int p1] (wMo xMo cI cZ gMo) sz r (wMo xMo cI cZ gMo) := by
  refine mi_start (own := R_Mo) (by decide +kernel) rfl (Nat.le_of_ble_eq_true rfl) (fun p e s m args below meth c A ls C0 hr hlk hP hD hS hl => ?_)
  obtain ⟨Q, hQ⟩ : ∃ Q, Q = QI below D (TYS cI cZ cJ) A (wMo xMo cI cZ gMo) r args s := ⟨_, rfl⟩
  rw [← hQ]
  obtain ⟨hx, hb, -, hown, hts, hK, hE, -⟩ := id C0
  have hl : lv_has ls 4 [(0, .ref (xMo 0)), (1, .int p1)] := hl
  obtain ⟨H, hH⟩ : ∃ H, H = s.heap := ⟨_, rfl⟩
  have hP : va_P D vwCl (wMo xMo cI cZ gMo) H := by rw [hH]; exact hP
  have hS : va_S A s.heap H [] := by rw [hH]; exact hS
  rw [show W p l e rm_Mo_stands_r s m args below meth c s.heap = W p l e rm_Mo_stands_r s m args below meth c H by rw [hH]]
  generalize ([] : List Loc) = locs at hS ⊢
  unfold f_Mo_stands at h
  refine lv_iconst (v := 1) hx hb d_Mo_stands_0 (by decide) ?_
  refine lv_istore_n (lv' := [(2, .int 1), (0, .ref (xMo 0)), (1, .int p1)]) hx hb d_Mo_stands_1 rfl hl (by decide) rfl (fun ls hl => ?_)
  refine lv_iconst (v := 0) hx hb d_Mo_stands_2 (by decide) ?_
  refine lv_istore_n (lv' := [(3, .int 0), (2, .int 1), (0, .ref (xMo 0)), (1, .int p1)]) hx hb d_Mo_stands_3 rfl hl (by decide) rfl (fun ls hl => ?_)
  have K53 : ∀ (v2_53 : Int32) (v3_53 : Int32) (H : Heap) (locs : List Loc) (ls : Array Slot), va_P D vwCl (wMo xMo cI cZ gMo) H → va_D A (wMo xMo cI cZ gMo) → va_S A s.heap H locs → lv_has ls 4 [(0, .ref (xMo 0)), (1, .int p1), (2, .int v2_53), (3, .int v3_53)] → f_Mo_stands_X53 v2_53 v3_53 = some r → W p l e rm_Mo_stands_r s m args below meth c H locs 0 0 Q (F0 m 53 ls []) := by
    intro v2_53 v3_53 H locs ls hP hD hS hl h
    unfold f_Mo_stands_X53 at h
    refine lv_iload_n hx hb d_Mo_stands_53 rfl (lv_at hl 2 rfl) ?_
    obtain ⟨hz_1, h⟩ := gb_i h
    cases h
    rw [hQ]
    exact mi_ret C0 hr (isb_n hz_1) hlk hP hD hS d_Mo_stands_54
  have K4 : ∀ (n : Nat) (v2_4 : Int32) (v3_4 : Int32) (H : Heap) (locs : List Loc) (ls : Array Slot), va_P D vwCl (wMo xMo cI cZ gMo) H → va_D A (wMo xMo cI cZ gMo) → va_S A s.heap H locs → lv_has ls 4 [(0, .ref (xMo 0)), (1, .int p1), (2, .int v2_4), (3, .int v3_4)] → it2 (f_Mo_stands_L4 gMo p1) n v2_4 v3_4 = some r → W p l e rm_Mo_stands_r s m args below meth c H locs 0 0 Q (F0 m 4 ls []) := by
    intro n
    induction n with
    | zero => intro v2_4 v3_4 H locs ls hP hD hS hl h; exact (it2_0 h).elim
    | succ n ih =>
      intro v2_4 v3_4 H locs ls hP hD hS hl h
      rw [it2_s, f_Mo_stands_L4] at h
      generalize it2 (f_Mo_stands_L4 gMo p1) n = kc_4 at h ih
      refine lv_iload_n hx hb d_Mo_stands_4 rfl (lv_at hl 3 rfl) ?_
      refine lv_bipush (v := 6) hx hb d_Mo_stands_5 (by decide) ?_
      refine lv_icmp_ge (tgt := 53) hx hb d_Mo_stands_7 (by decide) (fun c_2 => ?_) (fun c_2 => ?_)
      · rw [if_pos c_2] at h
        exact K53 v2_4 v3_4 H locs ls hP hD hS (lv_sub hl [0, 1, 2, 3] rfl) h
      · rw [if_neg c_2] at h
        refine lv_iload_n hx hb d_Mo_stands_10 rfl (lv_at hl 2 rfl) ?_
        have K46 : ∀ (s0_46 : Int32) (v2_46 : Int32) (v3_46 : Int32) (H : Heap) (locs : List Loc) (ls : Array Slot), va_P D vwCl (wMo xMo cI cZ gMo) H → va_D A (wMo xMo cI cZ gMo) → va_S A s.heap H locs → lv_has ls 4 [(0, .ref (xMo 0)), (1, .int p1), (2, .int v2_46), (3, .int v3_46)] → f_Mo_stands_J46 kc_4 s0_46 v2_46 v3_46 = some r → W p l e rm_Mo_stands_r s m args below meth c H locs 0 0 Q (F0 m 46 ls [.int s0_46]) := by
          intro s0_46 v2_46 v3_46 H locs ls hP hD hS hl h
          unfold f_Mo_stands_J46 at h
          refine lv_istore_n (lv' := [(2, .int s0_46), (0, .ref (xMo 0)), (1, .int p1), (3, .int v3_46)]) hx hb d_Mo_stands_46 rfl hl (by decide) rfl (fun ls hl => ?_)
          obtain ⟨x_3, ex_3, h⟩ := letb_i h
          refine lv_iinc (v := x_3) (lv' := [(3, .int x_3), (2, .int s0_46), (0, .ref (xMo 0)), (1, .int p1)]) hx hb d_Mo_stands_47 hl (k := 3) rfl (by rw [ex_3]; rfl) (by decide) rfl (fun ls hl => ?_)
          refine lv_goto (tgt := 4) hx hb d_Mo_stands_50 (by decide) ?_
          exact ih s0_46 x_3 H locs ls hP hD hS (lv_sub hl [2, 3, 1, 0] rfl) h
        have K45 : ∀ (v2_45 : Int32) (v3_45 : Int32) (H : Heap) (locs : List Loc) (ls : Array Slot), va_P D vwCl (wMo xMo cI cZ gMo) H → va_D A (wMo xMo cI cZ gMo) → va_S A s.heap H locs → lv_has ls 4 [(0, .ref (xMo 0)), (1, .int p1), (2, .int v2_45), (3, .int v3_45)] → f_Mo_stands_J45 kc_4 v2_45 v3_45 = some r → W p l e rm_Mo_stands_r s m args below meth c H locs 0 0 Q (F0 m 45 ls []) := by
          intro v2_45 v3_45 H locs ls hP hD hS hl h
          unfold f_Mo_stands_J45 at h
          refine lv_iconst (v := 0) hx hb d_Mo_stands_45 (by decide) ?_
          exact K46 0 v2_45 v3_45 H locs ls hP hD hS (lv_sub hl [0, 1, 2, 3] rfl) h
        refine lv_if_eq (tgt := 45) hx hb d_Mo_stands_11 (by decide) (fun c_4 => ?_) (fun c_4 => ?_)
        · rw [if_pos c_4] at h
          exact K45 v2_4 v3_4 H locs ls hP hD hS (lv_sub hl [0, 1, 2, 3] rfl) h
        · rw [if_neg c_4] at h
          refine lv_iload_n hx hb d_Mo_stands_14 rfl (lv_at hl 1 rfl) ?_
          refine lv_iload_n hx hb d_Mo_stands_15 rfl (lv_at hl 3 rfl) ?_
          obtain ⟨r_5, hc_6, h⟩ := xv1_i h
          refine cSi (ws' := (wMo xMo cI cZ gMo)) (As := [.int p1, .int v3_4]) (rest := []) C0 hP hD hS hl.1 [] (c_Mo_isIn_r l D cI cZ cJ  H.size p1 v3_4 r_5 hc_6) k_Mo_isIn m_853 rfl rfl rfl (rp_same rfl) ⟨by decide, by decide⟩ ⟨rfl, rfl⟩ rfl (Nat.le_of_ble_eq_true rfl) d_Mo_stands_16 ⟨Nat.zero_le _, Nat.zero_le _⟩ (fun H locs hP hD hS => ?_)
          have K41 : ∀ (v2_41 : Int32) (v3_41 : Int32) (H : Heap) (locs : List Loc) (ls : Array Slot), va_P D vwCl (wMo xMo cI cZ gMo) H → va_D A (wMo xMo cI cZ gMo) → va_S A s.heap H locs → lv_has ls 4 [(0, .ref (xMo 0)), (1, .int p1), (2, .int v2_41), (3, .int v3_41)] → f_Mo_stands_J41 kc_4 v2_41 v3_41 = some r → W p l e rm_Mo_stands_r s m args below meth c H locs 0 0 Q (F0 m 41 ls []) := by
            intro v2_41 v3_41 H locs ls hP hD hS hl h
            unfold f_Mo_stands_J41 at h
            refine lv_iconst (v := 1) hx hb d_Mo_stands_41 (by decide) ?_
            refine lv_goto (tgt := 46) hx hb d_Mo_stands_42 (by decide) ?_
            exact K46 1 v2_41 v3_41 H locs ls hP hD hS (lv_sub hl [0, 1, 2, 3] rfl) h
          refine lv_if_eq (tgt := 41) hx hb d_Mo_stands_19 (by decide) (fun c_7 => ?_) (fun c_7 => ?_)
          · rw [if_pos c_7] at h
            exact K41 v2_4 v3_4 H locs ls hP hD hS (lv_sub hl [0, 1, 2, 3] rfl) h
          · rw [if_neg c_7] at h
            refine lv_aload_n hx hb d_Mo_stands_22 rfl (lv_at hl 0 rfl) ?_
            refine va_get (ci := 8) (v := .ref (xMo 3)) (C := R_Mo) (T := F_Mo) (N := 31) hx hb hts i_Mo hown hK hP 0 rfl rfl 4 (by decide) (hts _ m_708) (fun _ h9 => h9) rfl d_Mo_stands_23 ?_
            refine lv_bipush (v := 6) hx hb d_Mo_stands_26 (by decide) ?_
            refine lv_iload_n hx hb d_Mo_stands_28 rfl (lv_at hl 3 rfl) ?_
            refine lv_imul hx hb d_Mo_stands_29 ?_
            refine lv_aload_n hx hb d_Mo_stands_30 rfl (lv_at hl 0 rfl) ?_
            refine va_get (ci := 8) (v := .ref (xMo 10)) (C := R_Mo) (T := F_Mo) (N := 31) hx hb hts i_Mo hown hK hP 0 rfl rfl 12 (by decide) (hts _ m_716) (fun _ h9 => h9) rfl d_Mo_stands_31 ?_
            refine lv_iload_n hx hb d_Mo_stands_34 rfl (lv_at hl 3 rfl) ?_
            obtain ⟨hi_8, h⟩ := gb_i h
            refine va_iald hx hb hK hP 10 0 rfl rfl (inb_in hi_8) d_Mo_stands_35 ?_
            obtain ⟨x_9, ex_9, h⟩ := letb_i h
            refine lv_topn ex_9 ?_
            refine lv_iadd hx hb d_Mo_stands_36 ?_
            obtain ⟨hi_10, h⟩ := gb_i h
            refine va_zald hx hb hK hP 3 1 rfl rfl (inb_in hi_10) d_Mo_stands_37 ?_
            obtain ⟨x_11, ex_11, h⟩ := letb_i h
            refine lv_topn ex_11 ?_
            refine lv_if_ne (tgt := 45) hx hb d_Mo_stands_38 (by decide) (fun c_12 => ?_) (fun c_12 => ?_)
            · rw [if_neg c_12] at h
              exact K45 v2_4 v3_4 H locs ls hP hD hS (lv_sub hl [0, 1, 2, 3] rfl) h
            · rw [if_pos c_12] at h
              exact K41 v2_4 v3_4 H locs ls hP hD hS (lv_sub hl [0, 1, 2, 3] rfl) h
  exact K4 FU 1 0 H locs ls hP hD hS (lv_sub hl [2, 3, 1, 0] rfl) h
abbrev rm_Mo_along_r : Room := { frames := 0, cells := 0, slots := 0, locals := 0 }
set_option maxRecDepth 100000 in
set_option maxHeartbeats 4000000 in
theorem c_Mo_along_r (l : Launch) (D : va_G) (cI cZ cJ : ClassId) (xMo : Nat → Nat) (sz : Nat) (gMo : St) (p1 : Int32) (p2 : Int32) (p3 : Int32) (r : Int32) (h : f_Mo_along gMo p1 p2 p3 = some r) : MI l y_Mo_along b_Mo_along 6 (some .int) rm_Mo_along_r D (TYS cI cZ cJ) [.ref (xMo 0), .int p1, .int p2, .int p3] (wMo xMo cI cZ gMo) sz r (wMo xMo cI cZ gMo) := by
  refine mi_start (own := R_Mo) (by decide +kernel) rfl (Nat.le_of_ble_eq_true rfl) (fun p e s m args below meth c A ls C0 hr hlk hP hD hS hl => ?_)
  obtain ⟨Q, hQ⟩ : ∃ Q, Q = QI below D (TYS cI cZ cJ) A (wMo xMo cI cZ gMo) r args s := ⟨_, rfl⟩
  rw [← hQ]
  obtain ⟨hx, hb, -, hown, hts, hK, hE, -⟩ := id C0
  have hl : lv_has ls 6 [(0, .ref (xMo 0)), (1, .int p1), (2, .int p2), (3, .int p3)] := hl
  obtain ⟨H, hH⟩ : ∃ H, H = s.heap := ⟨_, rfl⟩
  have hP : va_P D vwCl (wMo xMo cI cZ gMo) H := by rw [hH]; exact hP
  have hS : va_S A s.heap H [] := by rw [hH]; exact hS
  rw [show W p l e rm_Mo_along_r s m args below meth c s.heap = W p l e rm_Mo_along_r s m args below meth c H by rw [hH]]
  generalize ([] : List Loc) = locs at hS ⊢
  unfold f_Mo_along at h
  refine lv_iload_n hx hb d_Mo_along_0 rfl (lv_at hl 2 rfl) ?_
  have K28 : ∀ (s0_28 : Int32) (H : Heap) (locs : List Loc) (ls : Array Slot), va_P D vwCl (wMo xMo cI cZ gMo) H → va_D A (wMo xMo cI cZ gMo) → va_S A s.heap H locs → lv_has ls 6 [(0, .ref (xMo 0)), (1, .int p1), (2, .int p2), (3, .int p3)] → f_Mo_along_J28 gMo p1 p2 p3 s0_28 = some r → W p l e rm_Mo_along_r s m args below meth c H locs 0 0 Q (F0 m 28 ls [.int s0_28]) := by
    intro s0_28 H locs ls hP hD hS hl h
    unfold f_Mo_along_J28 at h
    refine lv_istore (lv' := [(4, .int s0_28), (0, .ref (xMo 0)), (1, .int p1), (2, .int p2), (3, .int p3)]) hx hb d_Mo_along_28 hl (by decide) rfl (fun ls hl => ?_)
    refine lv_iload_n hx hb d_Mo_along_30 rfl (lv_at hl 3 rfl) ?_
    refine lv_iconst (v := 1) hx hb d_Mo_along_31 (by decide) ?_
    have K58 : ∀ (s0_58 : Int32) (v4_58 : Int32) (H : Heap) (locs : List Loc) (ls : Array Slot), va_P D vwCl (wMo xMo cI cZ gMo) H → va_D A (wMo xMo cI cZ gMo) → va_S A s.heap H locs → lv_has ls 6 [(0, .ref (xMo 0)), (1, .int p1), (2, .int p2), (3, .int p3), (4, .int v4_58)] → f_Mo_along_J58 gMo p1 p3 s0_58 v4_58 = some r → W p l e rm_Mo_along_r s m args below meth c H locs 0 0 Q (F0 m 58 ls [.int s0_58]) := by
      intro s0_58 v4_58 H locs ls hP hD hS hl h
      unfold f_Mo_along_J58 at h
      refine lv_istore (lv' := [(5, .int s0_58), (0, .ref (xMo 0)), (1, .int p1), (2, .int p2), (3, .int p3), (4, .int v4_58)]) hx hb d_Mo_along_58 hl (by decide) rfl (fun ls hl => ?_)
      refine lv_aload_n hx hb d_Mo_along_60 rfl (lv_at hl 1 rfl) ?_
      refine va_get (ci := 8) (v := .ref (xMo 1)) (C := R_Mo) (T := F_Mo) (N := 31) hx hb hts i_Mo hown hK hP 0 rfl rfl 2 (by decide) (hts _ m_706) (fun _ h9 => h9) rfl d_Mo_along_61 ?_
      refine lv_iconst (v := 3) hx hb d_Mo_along_64 (by decide) ?_
      refine lv_iload_n hx hb d_Mo_along_65 rfl (lv_at hl 2 rfl) ?_
      refine lv_imul hx hb d_Mo_along_66 ?_
      refine lv_iload_n hx hb d_Mo_along_67 rfl (lv_at hl 4 rfl) ?_
      refine lv_if_ne (tgt := 76) hx hb d_Mo_along_68 (by decide) (fun c_1 => ?_) (fun c_1 => ?_)
      · rw [if_neg c_1] at h
        refine lv_iload_n hx hb d_Mo_along_76 rfl (lv_at hl 4 rfl) ?_
        refine lv_iconst (v := 1) hx hb d_Mo_along_77 (by decide) ?_
        refine lv_icmp_ne (tgt := 86) hx hb d_Mo_along_78 (by decide) (fun c_2 => ?_) (fun c_2 => ?_)
        · rw [if_neg c_2] at h
          refine lv_iconst (v := 3) hx hb d_Mo_along_86 (by decide) ?_
          refine lv_iload hx hb d_Mo_along_87 (lv_at hl 5 rfl) ?_
          refine lv_isub hx hb d_Mo_along_89 ?_
          refine lv_iload hx hb d_Mo_along_90 (lv_at hl 0 rfl) ?_
          refine lv_isub hx hb d_Mo_along_92 ?_
          refine lv_iadd hx hb d_Mo_along_93 ?_
          obtain ⟨hi_3, h⟩ := gb_i h
          refine va_iald hx hb hK hP 1 0 rfl rfl (inb_in hi_3) d_Mo_along_94 ?_
          obtain ⟨x_4, ex_4, h⟩ := letb_i h
          refine lv_topn ex_4 ?_
          cases h
          rw [hQ]
          exact mi_ret C0 hr rfl hlk hP hD hS d_Mo_along_95
        · rw [if_pos c_2] at h
          refine lv_iload hx hb d_Mo_along_81 (lv_at hl 0 rfl) ?_
          refine lv_goto (tgt := 93) hx hb d_Mo_along_83 (by decide) ?_
          refine lv_iadd hx hb d_Mo_along_93 ?_
          obtain ⟨hi_5, h⟩ := gb_i h
          refine va_iald hx hb hK hP 1 0 rfl rfl (inb_in hi_5) d_Mo_along_94 ?_
          obtain ⟨x_6, ex_6, h⟩ := letb_i h
          refine lv_topn ex_6 ?_
          cases h
          rw [hQ]
          exact mi_ret C0 hr rfl hlk hP hD hS d_Mo_along_95
      · rw [if_pos c_1] at h
        refine lv_iload hx hb d_Mo_along_71 (lv_at hl 5 rfl) ?_
        refine lv_goto (tgt := 93) hx hb d_Mo_along_73 (by decide) ?_
        refine lv_iadd hx hb d_Mo_along_93 ?_
        obtain ⟨hi_7, h⟩ := gb_i h
        refine va_iald hx hb hK hP 1 0 rfl rfl (inb_in hi_7) d_Mo_along_94 ?_
        obtain ⟨x_8, ex_8, h⟩ := letb_i h
        refine lv_topn ex_8 ?_
        cases h
        rw [hQ]
        exact mi_ret C0 hr rfl hlk hP hD hS d_Mo_along_95
    have K40 : ∀ (v4_40 : Int32) (H : Heap) (locs : List Loc) (ls : Array Slot), va_P D vwCl (wMo xMo cI cZ gMo) H → va_D A (wMo xMo cI cZ gMo) → va_S A s.heap H locs → lv_has ls 6 [(0, .ref (xMo 0)), (1, .int p1), (2, .int p2), (3, .int p3), (4, .int v4_40)] → f_Mo_along_J40 gMo p1 p3 v4_40 = some r → W p l e rm_Mo_along_r s m args below meth c H locs 0 0 Q (F0 m 40 ls []) := by
      intro v4_40 H locs ls hP hD hS hl h
      unfold f_Mo_along_J40 at h
      refine lv_iconst (v := 0) hx hb d_Mo_along_40 (by decide) ?_
      refine lv_goto (tgt := 58) hx hb d_Mo_along_41 (by decide) ?_
      exact K58 0 v4_40 H locs ls hP hD hS (lv_sub hl [0, 1, 2, 3, 4] rfl) h
    refine lv_icmp_eq (tgt := 40) hx hb d_Mo_along_32 (by decide) (fun c_9 => ?_) (fun c_9 => ?_)
    · rw [if_pos c_9] at h
      exact K40 s0_28 H locs ls hP hD hS (lv_sub hl [1, 2, 3, 4, 0] rfl) h
    · rw [if_neg c_9] at h
      refine lv_iload_n hx hb d_Mo_along_35 rfl (lv_at hl 3 rfl) ?_
      refine lv_iconst (v := 3) hx hb d_Mo_along_36 (by decide) ?_
      refine lv_icmp_ne (tgt := 44) hx hb d_Mo_along_37 (by decide) (fun c_10 => ?_) (fun c_10 => ?_)
      · rw [if_neg c_10] at h
        refine lv_iload_n hx hb d_Mo_along_44 rfl (lv_at hl 3 rfl) ?_
        have K53 : ∀ (v4_53 : Int32) (H : Heap) (locs : List Loc) (ls : Array Slot), va_P D vwCl (wMo xMo cI cZ gMo) H → va_D A (wMo xMo cI cZ gMo) → va_S A s.heap H locs → lv_has ls 6 [(0, .ref (xMo 0)), (1, .int p1), (2, .int p2), (3, .int p3), (4, .int v4_53)] → f_Mo_along_J53 gMo p1 p3 v4_53 = some r → W p l e rm_Mo_along_r s m args below meth c H locs 0 0 Q (F0 m 53 ls []) := by
          intro v4_53 H locs ls hP hD hS hl h
          unfold f_Mo_along_J53 at h
          refine lv_iconst (v := 1) hx hb d_Mo_along_53 (by decide) ?_
          refine lv_goto (tgt := 58) hx hb d_Mo_along_54 (by decide) ?_
          exact K58 1 v4_53 H locs ls hP hD hS (lv_sub hl [0, 1, 2, 3, 4] rfl) h
        refine lv_if_eq (tgt := 53) hx hb d_Mo_along_45 (by decide) (fun c_11 => ?_) (fun c_11 => ?_)
        · rw [if_pos c_11] at h
          exact K53 s0_28 H locs ls hP hD hS (lv_sub hl [1, 2, 3, 4, 0] rfl) h
        · rw [if_neg c_11] at h
          refine lv_iload_n hx hb d_Mo_along_48 rfl (lv_at hl 3 rfl) ?_
          refine lv_iconst (v := 5) hx hb d_Mo_along_49 (by decide) ?_
          refine lv_icmp_ne (tgt := 57) hx hb d_Mo_along_50 (by decide) (fun c_12 => ?_) (fun c_12 => ?_)
          · rw [if_neg c_12] at h
            refine lv_iconst (v := 2) hx hb d_Mo_along_57 (by decide) ?_
            exact K58 2 s0_28 H locs ls hP hD hS (lv_sub hl [1, 2, 3, 4, 0] rfl) h
          · rw [if_pos c_12] at h
            exact K53 s0_28 H locs ls hP hD hS (lv_sub hl [1, 2, 3, 4, 0] rfl) h
      · rw [if_pos c_10] at h
        exact K40 s0_28 H locs ls hP hD hS (lv_sub hl [1, 2, 3, 4, 0] rfl) h
  have K9 : ∀ (H : Heap) (locs : List Loc) (ls : Array Slot), va_P D vwCl (wMo xMo cI cZ gMo) H → va_D A (wMo xMo cI cZ gMo) → va_S A s.heap H locs → lv_has ls 6 [(0, .ref (xMo 0)), (1, .int p1), (2, .int p2), (3, .int p3)] → f_Mo_along_J9 gMo p1 p2 p3 = some r → W p l e rm_Mo_along_r s m args below meth c H locs 0 0 Q (F0 m 9 ls []) := by
    intro  H locs ls hP hD hS hl h
    unfold f_Mo_along_J9 at h
    refine lv_iconst (v := 0) hx hb d_Mo_along_9 (by decide) ?_
    refine lv_goto (tgt := 28) hx hb d_Mo_along_10 (by decide) ?_
    exact K28 0 H locs ls hP hD hS (lv_sub hl [0, 1, 2, 3] rfl) h
  refine lv_if_eq (tgt := 9) hx hb d_Mo_along_1 (by decide) (fun c_13 => ?_) (fun c_13 => ?_)
  · rw [if_pos c_13] at h
    exact K9  H locs ls hP hD hS (lv_sub hl [0, 1, 2, 3] rfl) h
  · rw [if_neg c_13] at h
    refine lv_iload_n hx hb d_Mo_along_4 rfl (lv_at hl 2 rfl) ?_
    refine lv_iconst (v := 2) hx hb d_Mo_along_5 (by decide) ?_
    refine lv_icmp_ne (tgt := 13) hx hb d_Mo_along_6 (by decide) (fun c_14 => ?_) (fun c_14 => ?_)
    · rw [if_neg c_14] at h
      refine lv_iload_n hx hb d_Mo_along_13 rfl (lv_at hl 2 rfl) ?_
      refine lv_iconst (v := 1) hx hb d_Mo_along_14 (by decide) ?_
      have K23 : ∀ (H : Heap) (locs : List Loc) (ls : Array Slot), va_P D vwCl (wMo xMo cI cZ gMo) H → va_D A (wMo xMo cI cZ gMo) → va_S A s.heap H locs → lv_has ls 6 [(0, .ref (xMo 0)), (1, .int p1), (2, .int p2), (3, .int p3)] → f_Mo_along_J23 gMo p1 p2 p3 = some r → W p l e rm_Mo_along_r s m args below meth c H locs 0 0 Q (F0 m 23 ls []) := by
        intro  H locs ls hP hD hS hl h
        unfold f_Mo_along_J23 at h
        refine lv_iconst (v := 1) hx hb d_Mo_along_23 (by decide) ?_
        refine lv_goto (tgt := 28) hx hb d_Mo_along_24 (by decide) ?_
        exact K28 1 H locs ls hP hD hS (lv_sub hl [0, 1, 2, 3] rfl) h
      refine lv_icmp_eq (tgt := 23) hx hb d_Mo_along_15 (by decide) (fun c_15 => ?_) (fun c_15 => ?_)
      · rw [if_pos c_15] at h
        exact K23  H locs ls hP hD hS (lv_sub hl [0, 1, 2, 3] rfl) h
      · rw [if_neg c_15] at h
        refine lv_iload_n hx hb d_Mo_along_18 rfl (lv_at hl 2 rfl) ?_
        refine lv_iconst (v := 4) hx hb d_Mo_along_19 (by decide) ?_
        refine lv_icmp_ne (tgt := 27) hx hb d_Mo_along_20 (by decide) (fun c_16 => ?_) (fun c_16 => ?_)
        · rw [if_neg c_16] at h
          refine lv_iconst (v := 2) hx hb d_Mo_along_27 (by decide) ?_
          exact K28 2 H locs ls hP hD hS (lv_sub hl [0, 1, 2, 3] rfl) h
        · rw [if_pos c_16] at h
          exact K23  H locs ls hP hD hS (lv_sub hl [0, 1, 2, 3] rfl) h
    · rw [if_pos c_14] at h
      exact K9  H locs ls hP hD hS (lv_sub hl [0, 1, 2, 3] rfl) h
abbrev rm_Mo_lengthOf_r : Room := { frames := 1, cells := 0, slots := 0, locals := 25 }
set_option maxRecDepth 100000 in
set_option maxHeartbeats 4000000 in
theorem c_Mo_lengthOf_r (l : Launch) (D : va_G) (cI cZ cJ : ClassId) (xMo : Nat → Nat) (sz : Nat) (gMo : St) (p1 : Int32) (p2 : Int32) (r : Int32) (h : f_Mo_lengthOf gMo p1 p2 = some r) : MI l y_Mo_lengthOf b_Mo_lengthOf 5 (some .int) rm_Mo_lengthOf_r D (TYS cI cZ cJ) [.ref (xMo 0), .int p1, .int p2] (wMo xMo cI cZ gMo) sz r (wMo xMo cI cZ gMo) := by
  refine mi_start (own := R_Mo) (by decide +kernel) rfl (Nat.le_of_ble_eq_true rfl) (fun p e s m args below meth c A ls C0 hr hlk hP hD hS hl => ?_)
  obtain ⟨Q, hQ⟩ : ∃ Q, Q = QI below D (TYS cI cZ cJ) A (wMo xMo cI cZ gMo) r args s := ⟨_, rfl⟩
  rw [← hQ]
  obtain ⟨hx, hb, -, hown, hts, hK, hE, -⟩ := id C0
  have hl : lv_has ls 5 [(0, .ref (xMo 0)), (1, .int p1), (2, .int p2)] := hl
  obtain ⟨H, hH⟩ : ∃ H, H = s.heap := ⟨_, rfl⟩
  have hP : va_P D vwCl (wMo xMo cI cZ gMo) H := by rw [hH]; exact hP
  have hS : va_S A s.heap H [] := by rw [hH]; exact hS
  rw [show W p l e rm_Mo_lengthOf_r s m args below meth c s.heap = W p l e rm_Mo_lengthOf_r s m args below meth c H by rw [hH]]
  generalize ([] : List Loc) = locs at hS ⊢
  unfold f_Mo_lengthOf at h
  refine lv_iload_n hx hb d_Mo_lengthOf_0 rfl (lv_at hl 2 rfl) ?_
  refine lv_istore_n (lv' := [(3, .int p2), (0, .ref (xMo 0)), (1, .int p1), (2, .int p2)]) hx hb d_Mo_lengthOf_1 rfl hl (by decide) rfl (fun ls hl => ?_)
  refine lv_iconst (v := 0) hx hb d_Mo_lengthOf_2 (by decide) ?_
  refine lv_istore (lv' := [(4, .int 0), (3, .int p2), (0, .ref (xMo 0)), (1, .int p1), (2, .int p2)]) hx hb d_Mo_lengthOf_3 hl (by decide) rfl (fun ls hl => ?_)
  have K50 : ∀ (v3_50 : Int32) (v4_50 : Int32) (H : Heap) (locs : List Loc) (ls : Array Slot), va_P D vwCl (wMo xMo cI cZ gMo) H → va_D A (wMo xMo cI cZ gMo) → va_S A s.heap H locs → lv_has ls 5 [(0, .ref (xMo 0)), (1, .int p1), (2, .int p2), (3, .int v3_50), (4, .int v4_50)] → f_Mo_lengthOf_X50 v3_50 v4_50 = some r → W p l e rm_Mo_lengthOf_r s m args below meth c H locs 0 0 Q (F0 m 50 ls []) := by
    intro v3_50 v4_50 H locs ls hP hD hS hl h
    unfold f_Mo_lengthOf_X50 at h
    refine lv_iload_n hx hb d_Mo_lengthOf_50 rfl (lv_at hl 3 rfl) ?_
    cases h
    rw [hQ]
    exact mi_ret C0 hr rfl hlk hP hD hS d_Mo_lengthOf_51
  have K5 : ∀ (n : Nat) (v3_5 : Int32) (v4_5 : Int32) (H : Heap) (locs : List Loc) (ls : Array Slot), va_P D vwCl (wMo xMo cI cZ gMo) H → va_D A (wMo xMo cI cZ gMo) → va_S A s.heap H locs → lv_has ls 5 [(0, .ref (xMo 0)), (1, .int p1), (2, .int p2), (3, .int v3_5), (4, .int v4_5)] → it2 (f_Mo_lengthOf_L5 gMo p1 p2) n v3_5 v4_5 = some r → W p l e rm_Mo_lengthOf_r s m args below meth c H locs 0 0 Q (F0 m 5 ls []) := by
    intro n
    induction n with
    | zero => intro v3_5 v4_5 H locs ls hP hD hS hl h; exact (it2_0 h).elim
    | succ n ih =>
      intro v3_5 v4_5 H locs ls hP hD hS hl h
      rw [it2_s, f_Mo_lengthOf_L5] at h
      generalize it2 (f_Mo_lengthOf_L5 gMo p1 p2) n = kc_5 at h ih
      refine lv_iload hx hb d_Mo_lengthOf_5 (lv_at hl 4 rfl) ?_
      refine lv_bipush (v := 6) hx hb d_Mo_lengthOf_7 (by decide) ?_
      refine lv_icmp_ge (tgt := 50) hx hb d_Mo_lengthOf_9 (by decide) (fun c_1 => ?_) (fun c_1 => ?_)
      · rw [if_pos c_1] at h
        exact K50 v3_5 v4_5 H locs ls hP hD hS (lv_sub hl [0, 1, 2, 3, 4] rfl) h
      · rw [if_neg c_1] at h
        refine lv_iload_n hx hb d_Mo_lengthOf_12 rfl (lv_at hl 1 rfl) ?_
        refine lv_iload hx hb d_Mo_lengthOf_13 (lv_at hl 4 rfl) ?_
        obtain ⟨r_2, hc_3, h⟩ := xv1_i h
        refine cSi (ws' := (wMo xMo cI cZ gMo)) (As := [.int p1, .int v4_5]) (rest := []) C0 hP hD hS hl.1 [] (c_Mo_isIn_r l D cI cZ cJ  H.size p1 v4_5 r_2 hc_3) k_Mo_isIn m_853 rfl rfl rfl (rp_same rfl) ⟨by decide, by decide⟩ ⟨rfl, rfl⟩ rfl (Nat.le_of_ble_eq_true rfl) d_Mo_lengthOf_15 ⟨Nat.zero_le _, Nat.zero_le _⟩ (fun H locs hP hD hS => ?_)
        have K43 : ∀ (s0_43 : Int32) (v3_43 : Int32) (v4_43 : Int32) (H : Heap) (locs : List Loc) (ls : Array Slot), va_P D vwCl (wMo xMo cI cZ gMo) H → va_D A (wMo xMo cI cZ gMo) → va_S A s.heap H locs → lv_has ls 5 [(0, .ref (xMo 0)), (1, .int p1), (2, .int p2), (3, .int v3_43), (4, .int v4_43)] → f_Mo_lengthOf_J43 kc_5 s0_43 v3_43 v4_43 = some r → W p l e rm_Mo_lengthOf_r s m args below meth c H locs 0 0 Q (F0 m 43 ls [.int s0_43]) := by
          intro s0_43 v3_43 v4_43 H locs ls hP hD hS hl h
          unfold f_Mo_lengthOf_J43 at h
          refine lv_istore_n (lv' := [(3, .int s0_43), (0, .ref (xMo 0)), (1, .int p1), (2, .int p2), (4, .int v4_43)]) hx hb d_Mo_lengthOf_43 rfl hl (by decide) rfl (fun ls hl => ?_)
          obtain ⟨x_4, ex_4, h⟩ := letb_i h
          refine lv_iinc (v := x_4) (lv' := [(4, .int x_4), (3, .int s0_43), (0, .ref (xMo 0)), (1, .int p1), (2, .int p2)]) hx hb d_Mo_lengthOf_44 hl (k := 4) rfl (by rw [ex_4]; rfl) (by decide) rfl (fun ls hl => ?_)
          refine lv_goto (tgt := 5) hx hb d_Mo_lengthOf_47 (by decide) ?_
          exact ih s0_43 x_4 H locs ls hP hD hS (lv_sub hl [2, 3, 4, 1, 0] rfl) h
        refine lv_if_eq (tgt := 42) hx hb d_Mo_lengthOf_18 (by decide) (fun c_5 => ?_) (fun c_5 => ?_)
        · rw [if_pos c_5] at h
          refine lv_iload_n hx hb d_Mo_lengthOf_42 rfl (lv_at hl 3 rfl) ?_
          exact K43 v3_5 v3_5 v4_5 H locs ls hP hD hS (lv_sub hl [0, 1, 2, 3, 4] rfl) h
        · rw [if_neg c_5] at h
          refine lv_iload_n hx hb d_Mo_lengthOf_21 rfl (lv_at hl 3 rfl) ?_
          refine lv_aload_n hx hb d_Mo_lengthOf_22 rfl (lv_at hl 0 rfl) ?_
          refine lv_iload hx hb d_Mo_lengthOf_23 (lv_at hl 4 rfl) ?_
          refine lv_aload_n hx hb d_Mo_lengthOf_25 rfl (lv_at hl 0 rfl) ?_
          refine va_get (ci := 8) (v := .ref (xMo 10)) (C := R_Mo) (T := F_Mo) (N := 31) hx hb hts i_Mo hown hK hP 0 rfl rfl 12 (by decide) (hts _ m_716) (fun _ h9 => h9) rfl d_Mo_lengthOf_26 ?_
          refine lv_iload hx hb d_Mo_lengthOf_29 (lv_at hl 4 rfl) ?_
          obtain ⟨hi_6, h⟩ := gb_i h
          refine va_iald hx hb hK hP 10 0 rfl rfl (inb_in hi_6) d_Mo_lengthOf_31 ?_
          obtain ⟨x_7, ex_7, h⟩ := letb_i h
          refine lv_topn ex_7 ?_
          refine lv_iconst (v := 0) hx hb d_Mo_lengthOf_32 (by decide) ?_
          obtain ⟨r_8, hc_9, h⟩ := xv1_i h
          refine cVi (ws' := (wMo xMo cI cZ gMo)) (As := [.int v4_5, .int x_7, .int 0]) (rest := [.int v3_5]) C0 hP hD hS hl.1 [0, 1, 2, 3, 4, 5, 6, 7, 8, 9, 10, 11, 12, 13, 14, 15] (c_Mo_along_r l D cI cZ cJ xMo H.size gMo v4_5 x_7 0 r_8 hc_9) k_Mo_along m_869 rfl rfl rfl rfl rfl (rp_same rfl) ⟨by decide, by decide⟩ ⟨rfl, rfl⟩ rfl (Nat.le_of_ble_eq_true rfl) d_Mo_lengthOf_33 ⟨Nat.zero_le _, Nat.zero_le _⟩ (fun H locs hP hD hS => ?_)
          refine lv_iadd hx hb d_Mo_lengthOf_36 ?_
          refine lv_iload_n hx hb d_Mo_lengthOf_37 rfl (lv_at hl 2 rfl) ?_
          refine lv_iadd hx hb d_Mo_lengthOf_38 ?_
          refine lv_goto (tgt := 43) hx hb d_Mo_lengthOf_39 (by decide) ?_
          exact K43 ((v3_5 + r_8) + p2) v3_5 v4_5 H locs ls hP hD hS (lv_sub hl [0, 1, 2, 3, 4] rfl) h
  exact K5 FU p2 0 H locs ls hP hD hS (lv_sub hl [2, 3, 4, 1, 0] rfl) h
abbrev rm_Mo_widest_r : Room := { frames := 1, cells := 0, slots := 0, locals := 25 }
set_option maxRecDepth 100000 in
set_option maxHeartbeats 4000000 in
theorem c_Mo_widest_r (l : Launch) (D : va_G) (cI cZ cJ : ClassId) (xMo : Nat → Nat) (sz : Nat) (gMo : St) (p1 : Int32) (p2 : Int32) (p3 : Int32) (r : Int32) (h : f_Mo_widest gMo p1 p2 p3 = some r) : MI l y_Mo_widest b_Mo_widest 7 (some .int) rm_Mo_widest_r D (TYS cI cZ cJ) [.ref (xMo 0), .int p1, .int p2, .int p3] (wMo xMo cI cZ gMo) sz r (wMo xMo cI cZ gMo) := by
  refine mi_start (own := R_Mo) (by decide +kernel) rfl (Nat.le_of_ble_eq_true rfl) (fun p e s m args below meth c A ls C0 hr hlk hP hD hS hl => ?_)
  obtain ⟨Q, hQ⟩ : ∃ Q, Q = QI below D (TYS cI cZ cJ) A (wMo xMo cI cZ gMo) r args s := ⟨_, rfl⟩
  rw [← hQ]
  obtain ⟨hx, hb, -, hown, hts, hK, hE, -⟩ := id C0
  have hl : lv_has ls 7 [(0, .ref (xMo 0)), (1, .int p1), (2, .int p2), (3, .int p3)] := hl
  obtain ⟨H, hH⟩ : ∃ H, H = s.heap := ⟨_, rfl⟩
  have hP : va_P D vwCl (wMo xMo cI cZ gMo) H := by rw [hH]; exact hP
  have hS : va_S A s.heap H [] := by rw [hH]; exact hS
  rw [show W p l e rm_Mo_widest_r s m args below meth c s.heap = W p l e rm_Mo_widest_r s m args below meth c H by rw [hH]]
  generalize ([] : List Loc) = locs at hS ⊢
  unfold f_Mo_widest at h
  refine lv_iconst (v := 0) hx hb d_Mo_widest_0 (by decide) ?_
  refine lv_istore (lv' := [(4, .int 0), (0, .ref (xMo 0)), (1, .int p1), (2, .int p2), (3, .int p3)]) hx hb d_Mo_widest_1 hl (by decide) rfl (fun ls hl => ?_)
  refine lv_iconst (v := 0) hx hb d_Mo_widest_3 (by decide) ?_
  refine lv_istore (lv' := [(5, .int 0), (4, .int 0), (0, .ref (xMo 0)), (1, .int p1), (2, .int p2), (3, .int p3)]) hx hb d_Mo_widest_4 hl (by decide) rfl (fun ls hl => ?_)
  have K64 : ∀ (v4_64 : Int32) (v5_64 : Int32) (H : Heap) (locs : List Loc) (ls : Array Slot), va_P D vwCl (wMo xMo cI cZ gMo) H → va_D A (wMo xMo cI cZ gMo) → va_S A s.heap H locs → lv_has ls 7 [(0, .ref (xMo 0)), (1, .int p1), (2, .int p2), (3, .int p3), (4, .int v4_64), (5, .int v5_64)] → f_Mo_widest_X64 p3 v4_64 v5_64 = some r → W p l e rm_Mo_widest_r s m args below meth c H locs 0 0 Q (F0 m 64 ls []) := by
    intro v4_64 v5_64 H locs ls hP hD hS hl h
    unfold f_Mo_widest_X64 at h
    refine lv_iload hx hb d_Mo_widest_64 (lv_at hl 4 rfl) ?_
    refine lv_iconst (v := 2) hx hb d_Mo_widest_66 (by decide) ?_
    refine lv_iload_n hx hb d_Mo_widest_67 rfl (lv_at hl 3 rfl) ?_
    refine lv_imul hx hb d_Mo_widest_68 ?_
    refine lv_iadd hx hb d_Mo_widest_69 ?_
    cases h
    rw [hQ]
    exact mi_ret C0 hr rfl hlk hP hD hS d_Mo_widest_70
  have K6 : ∀ (n : Nat) (v4_6 : Int32) (v5_6 : Int32) (H : Heap) (locs : List Loc) (ls : Array Slot), va_P D vwCl (wMo xMo cI cZ gMo) H → va_D A (wMo xMo cI cZ gMo) → va_S A s.heap H locs → lv_has ls 7 [(0, .ref (xMo 0)), (1, .int p1), (2, .int p2), (3, .int p3), (4, .int v4_6), (5, .int v5_6)] → it2 (f_Mo_widest_L6 gMo p1 p2 p3) n v4_6 v5_6 = some r → W p l e rm_Mo_widest_r s m args below meth c H locs 0 0 Q (F0 m 6 ls []) := by
    intro n
    induction n with
    | zero => intro v4_6 v5_6 H locs ls hP hD hS hl h; exact (it2_0 h).elim
    | succ n ih =>
      intro v4_6 v5_6 H locs ls hP hD hS hl h
      rw [it2_s, f_Mo_widest_L6] at h
      generalize it2 (f_Mo_widest_L6 gMo p1 p2 p3) n = kc_6 at h ih
      refine lv_iload hx hb d_Mo_widest_6 (lv_at hl 5 rfl) ?_
      refine lv_bipush (v := 6) hx hb d_Mo_widest_8 (by decide) ?_
      refine lv_icmp_ge (tgt := 64) hx hb d_Mo_widest_10 (by decide) (fun c_1 => ?_) (fun c_1 => ?_)
      · rw [if_pos c_1] at h
        exact K64 v4_6 v5_6 H locs ls hP hD hS (lv_sub hl [0, 1, 2, 3, 4, 5] rfl) h
      · rw [if_neg c_1] at h
        refine lv_iload_n hx hb d_Mo_widest_13 rfl (lv_at hl 1 rfl) ?_
        refine lv_iload hx hb d_Mo_widest_14 (lv_at hl 5 rfl) ?_
        obtain ⟨r_2, hc_3, h⟩ := xv1_i h
        refine cSi (ws' := (wMo xMo cI cZ gMo)) (As := [.int p1, .int v5_6]) (rest := []) C0 hP hD hS hl.1 [] (c_Mo_isIn_r l D cI cZ cJ  H.size p1 v5_6 r_2 hc_3) k_Mo_isIn m_853 rfl rfl rfl (rp_same rfl) ⟨by decide, by decide⟩ ⟨rfl, rfl⟩ rfl (Nat.le_of_ble_eq_true rfl) d_Mo_widest_16 ⟨Nat.zero_le _, Nat.zero_le _⟩ (fun H locs hP hD hS => ?_)
        have K40 : ∀ (s0_40 : Int32) (v4_40 : Int32) (v5_40 : Int32) (H : Heap) (locs : List Loc) (ls : Array Slot), va_P D vwCl (wMo xMo cI cZ gMo) H → va_D A (wMo xMo cI cZ gMo) → va_S A s.heap H locs → lv_has ls 7 [(0, .ref (xMo 0)), (1, .int p1), (2, .int p2), (3, .int p3), (4, .int v4_40), (5, .int v5_40)] → f_Mo_widest_J40 kc_6 s0_40 v4_40 v5_40 = some r → W p l e rm_Mo_widest_r s m args below meth c H locs 0 0 Q (F0 m 40 ls [.int s0_40]) := by
          intro s0_40 v4_40 v5_40 H locs ls hP hD hS hl h
          unfold f_Mo_widest_J40 at h
          refine lv_istore (lv' := [(6, .int s0_40), (0, .ref (xMo 0)), (1, .int p1), (2, .int p2), (3, .int p3), (4, .int v4_40), (5, .int v5_40)]) hx hb d_Mo_widest_40 hl (by decide) rfl (fun ls hl => ?_)
          refine lv_iload hx hb d_Mo_widest_42 (lv_at hl 0 rfl) ?_
          refine lv_iload hx hb d_Mo_widest_44 (lv_at hl 5 rfl) ?_
          have K56 : ∀ (s0_56 : Int32) (v4_56 : Int32) (v5_56 : Int32) (v6_56 : Int32) (H : Heap) (locs : List Loc) (ls : Array Slot), va_P D vwCl (wMo xMo cI cZ gMo) H → va_D A (wMo xMo cI cZ gMo) → va_S A s.heap H locs → lv_has ls 7 [(0, .ref (xMo 0)), (1, .int p1), (2, .int p2), (3, .int p3), (4, .int v4_56), (5, .int v5_56), (6, .int v6_56)] → f_Mo_widest_J56 kc_6 s0_56 v4_56 v5_56 v6_56 = some r → W p l e rm_Mo_widest_r s m args below meth c H locs 0 0 Q (F0 m 56 ls [.int s0_56]) := by
            intro s0_56 v4_56 v5_56 v6_56 H locs ls hP hD hS hl h
            unfold f_Mo_widest_J56 at h
            refine lv_istore (lv' := [(4, .int s0_56), (0, .ref (xMo 0)), (1, .int p1), (2, .int p2), (3, .int p3), (5, .int v5_56), (6, .int v6_56)]) hx hb d_Mo_widest_56 hl (by decide) rfl (fun ls hl => ?_)
            obtain ⟨x_4, ex_4, h⟩ := letb_i h
            refine lv_iinc (v := x_4) (lv' := [(5, .int x_4), (4, .int s0_56), (0, .ref (xMo 0)), (1, .int p1), (2, .int p2), (3, .int p3), (6, .int v6_56)]) hx hb d_Mo_widest_58 hl (k := 5) rfl (by rw [ex_4]; rfl) (by decide) rfl (fun ls hl => ?_)
            refine lv_goto (tgt := 6) hx hb d_Mo_widest_61 (by decide) ?_
            exact ih s0_56 x_4 H locs ls hP hD hS (lv_sub hl [2, 3, 4, 5, 1, 0] rfl) h
          refine lv_icmp_le (tgt := 54) hx hb d_Mo_widest_46 (by decide) (fun c_5 => ?_) (fun c_5 => ?_)
          · rw [if_pos c_5] at h
            refine lv_iload hx hb d_Mo_widest_54 (lv_at hl 5 rfl) ?_
            exact K56 v4_40 v4_40 v5_40 s0_40 H locs ls hP hD hS (lv_sub hl [1, 2, 3, 4, 5, 6, 0] rfl) h
          · rw [if_neg c_5] at h
            refine lv_iload hx hb d_Mo_widest_49 (lv_at hl 0 rfl) ?_
            refine lv_goto (tgt := 56) hx hb d_Mo_widest_51 (by decide) ?_
            exact K56 s0_40 v4_40 v5_40 s0_40 H locs ls hP hD hS (lv_sub hl [1, 2, 3, 4, 5, 6, 0] rfl) h
        refine lv_if_eq (tgt := 39) hx hb d_Mo_widest_19 (by decide) (fun c_6 => ?_) (fun c_6 => ?_)
        · rw [if_pos c_6] at h
          refine lv_iconst (v := 0) hx hb d_Mo_widest_39 (by decide) ?_
          exact K40 0 v4_6 v5_6 H locs ls hP hD hS (lv_sub hl [0, 1, 2, 3, 4, 5] rfl) h
        · rw [if_neg c_6] at h
          refine lv_aload_n hx hb d_Mo_widest_22 rfl (lv_at hl 0 rfl) ?_
          refine lv_iload hx hb d_Mo_widest_23 (lv_at hl 5 rfl) ?_
          refine lv_aload_n hx hb d_Mo_widest_25 rfl (lv_at hl 0 rfl) ?_
          refine va_get (ci := 8) (v := .ref (xMo 10)) (C := R_Mo) (T := F_Mo) (N := 31) hx hb hts i_Mo hown hK hP 0 rfl rfl 12 (by decide) (hts _ m_716) (fun _ h9 => h9) rfl d_Mo_widest_26 ?_
          refine lv_iload hx hb d_Mo_widest_29 (lv_at hl 5 rfl) ?_
          obtain ⟨hi_7, h⟩ := gb_i h
          refine va_iald hx hb hK hP 10 0 rfl rfl (inb_in hi_7) d_Mo_widest_31 ?_
          obtain ⟨x_8, ex_8, h⟩ := letb_i h
          refine lv_topn ex_8 ?_
          refine lv_iload_n hx hb d_Mo_widest_32 rfl (lv_at hl 2 rfl) ?_
          obtain ⟨r_9, hc_10, h⟩ := xv1_i h
          refine cVi (ws' := (wMo xMo cI cZ gMo)) (As := [.int v5_6, .int x_8, .int p2]) (rest := []) C0 hP hD hS hl.1 [0, 1, 2, 3, 4, 5, 6, 7, 8, 9, 10, 11, 12, 13, 14, 15] (c_Mo_along_r l D cI cZ cJ xMo H.size gMo v5_6 x_8 p2 r_9 hc_10) k_Mo_along m_869 rfl rfl rfl rfl rfl (rp_same rfl) ⟨by decide, by decide⟩ ⟨rfl, rfl⟩ rfl (Nat.le_of_ble_eq_true rfl) d_Mo_widest_33 ⟨Nat.zero_le _, Nat.zero_le _⟩ (fun H locs hP hD hS => ?_)
          refine lv_goto (tgt := 40) hx hb d_Mo_widest_36 (by decide) ?_
          exact K40 r_9 v4_6 v5_6 H locs ls hP hD hS (lv_sub hl [0, 1, 2, 3, 4, 5] rfl) h
  exact K6 FU 0 0 H locs ls hP hD hS (lv_sub hl [2, 3, 4, 5, 1, 0] rfl) h
abbrev rm_Mo_pack_r : Room := { frames := 2, cells := 0, slots := 0, locals := 51 }
set_option maxRecDepth 100000 in
set_option maxHeartbeats 4000000 in
theorem c_Mo_pack_r (l : Launch) (D : va_G) (cI cZ cJ : ClassId) (xMo : Nat → Nat) (sz : Nat) (gMo : St) (p1 : Int32) (p2 : Int32) (r : Int32) (gMo1 : St) (h : f_Mo_pack gMo p1 p2 = some (r, gMo1)) : MI l y_Mo_pack b_Mo_pack 11 (some .int) rm_Mo_pack_r D (TYS cI cZ cJ) [.ref (xMo 0), .int p1, .int p2] (wMo xMo cI cZ gMo) sz r (wMo xMo cI cZ gMo1) := by
  refine mi_start (own := R_Mo) (by decide +kernel) rfl (Nat.le_of_ble_eq_true rfl) (fun p e s m args below meth c A ls C0 hr hlk hP hD hS hl => ?_)
  obtain ⟨Q, hQ⟩ : ∃ Q, Q = QI below D (TYS cI cZ cJ) A (wMo xMo cI cZ gMo1) r args s := ⟨_, rfl⟩
  rw [← hQ]
  obtain ⟨hx, hb, -, hown, hts, hK, hE, -⟩ := id C0
  have hl : lv_has ls 11 [(0, .ref (xMo 0)), (1, .int p1), (2, .int p2)] := hl
  obtain ⟨H, hH⟩ : ∃ H, H = s.heap := ⟨_, rfl⟩
  have hP : va_P D vwCl (wMo xMo cI cZ gMo) H := by rw [hH]; exact hP
  have hS : va_S A s.heap H [] := by rw [hH]; exact hS
  rw [show W p l e rm_Mo_pack_r s m args below meth c s.heap = W p l e rm_Mo_pack_r s m args below meth c H by rw [hH]]
  generalize ([] : List Loc) = locs at hS ⊢
  unfold f_Mo_pack at h
  refine lv_aload_n hx hb d_Mo_pack_0 rfl (lv_at hl 0 rfl) ?_
  refine lv_iload_n hx hb d_Mo_pack_1 rfl (lv_at hl 1 rfl) ?_
  have K20 : ∀ (s1_20 : Int32) (H : Heap) (locs : List Loc) (ls : Array Slot), va_P D vwCl (wMo xMo cI cZ gMo) H → va_D A (wMo xMo cI cZ gMo) → va_S A s.heap H locs → lv_has ls 11 [(0, .ref (xMo 0)), (1, .int p1), (2, .int p2)] → f_Mo_pack_J20 gMo p1 p2 s1_20 = some (r, gMo1) → W p l e rm_Mo_pack_r s m args below meth c H locs 0 0 Q (F0 m 20 ls [.int s1_20, .ref (xMo 0)]) := by
    intro s1_20 H locs ls hP hD hS hl h
    unfold f_Mo_pack_J20 at h
    refine lv_iload_n hx hb d_Mo_pack_20 rfl (lv_at hl 1 rfl) ?_
    have K39 : ∀ (s1_39 : Int32) (s2_39 : Int32) (H : Heap) (locs : List Loc) (ls : Array Slot), va_P D vwCl (wMo xMo cI cZ gMo) H → va_D A (wMo xMo cI cZ gMo) → va_S A s.heap H locs → lv_has ls 11 [(0, .ref (xMo 0)), (1, .int p1), (2, .int p2)] → f_Mo_pack_J39 gMo p1 p2 s1_39 s2_39 = some (r, gMo1) → W p l e rm_Mo_pack_r s m args below meth c H locs 0 0 Q (F0 m 39 ls [.int s2_39, .int s1_39, .ref (xMo 0)]) := by
      intro s1_39 s2_39 H locs ls hP hD hS hl h
      unfold f_Mo_pack_J39 at h
      refine lv_iconst (v := 1) hx hb d_Mo_pack_39 (by decide) ?_
      obtain ⟨r_1, gMo_2, hc_3, h⟩ := xv2_i h
      refine cVi (ws' := (wMo xMo cI cZ gMo_2)) (As := [.int s1_39, .int s2_39, .int 1]) (rest := []) C0 hP hD hS hl.1 [0, 1, 2, 3, 4, 5, 6, 7, 8, 9, 10, 11, 12, 13, 14, 15] (c_Mo_goes_r l D cI cZ cJ xMo H.size gMo s1_39 s2_39 1 r_1 gMo_2 hc_3) k_Mo_goes m_810 rfl rfl rfl rfl rfl (rp_all rfl rfl) ⟨by decide, by decide⟩ ⟨rfl, rfl⟩ rfl (Nat.le_of_ble_eq_true rfl) d_Mo_pack_40 ⟨Nat.zero_le _, Nat.zero_le _⟩ (fun H locs hP hD hS => ?_)
      refine lv_if_ne (tgt := 48) hx hb d_Mo_pack_43 (by decide) (fun c_4 => ?_) (fun c_4 => ?_)
      · rw [if_neg c_4] at h
        refine lv_iconst (v := 1) hx hb d_Mo_pack_48 (by decide) ?_
        refine lv_istore_n (lv' := [(3, .int 1), (0, .ref (xMo 0)), (1, .int p1), (2, .int p2)]) hx hb d_Mo_pack_49 rfl hl (by decide) rfl (fun ls hl => ?_)
        refine lv_iconst (v := 0) hx hb d_Mo_pack_50 (by decide) ?_
        refine lv_istore (lv' := [(4, .int 0), (3, .int 1), (0, .ref (xMo 0)), (1, .int p1), (2, .int p2)]) hx hb d_Mo_pack_51 hl (by decide) rfl (fun ls hl => ?_)
        refine lv_iconst (v := 0) hx hb d_Mo_pack_53 (by decide) ?_
        refine lv_istore (lv' := [(5, .int 0), (4, .int 0), (3, .int 1), (0, .ref (xMo 0)), (1, .int p1), (2, .int p2)]) hx hb d_Mo_pack_54 hl (by decide) rfl (fun ls hl => ?_)
        have K107 : ∀ (v3_107 : Int32) (v4_107 : Int32) (v5_107 : Int32) (gMo_107 : St) (H : Heap) (locs : List Loc) (ls : Array Slot), va_P D vwCl (wMo xMo cI cZ gMo_107) H → va_D A (wMo xMo cI cZ gMo_107) → va_S A s.heap H locs → lv_has ls 11 [(0, .ref (xMo 0)), (1, .int p1), (2, .int p2), (3, .int v3_107), (4, .int v4_107), (5, .int v5_107)] → f_Mo_pack_X107 p1 p2 v3_107 v4_107 v5_107 gMo_107 = some (r, gMo1) → W p l e rm_Mo_pack_r s m args below meth c H locs 0 0 Q (F0 m 107 ls []) := by
          intro v3_107 v4_107 v5_107 gMo_107 H locs ls hP hD hS hl h
          unfold f_Mo_pack_X107 at h
          refine lv_ldc2 hx hb hown (hts _ m_856) d_Mo_pack_107 ?_
          refine lv_lstore (lv' := [(5, .long (-1)), (0, .ref (xMo 0)), (1, .int p1), (2, .int p2), (3, .int v3_107), (4, .int v4_107)]) hx hb d_Mo_pack_110 hl (by decide) rfl (fun ls hl => ?_)
          refine lv_iconst (v := 0) hx hb d_Mo_pack_112 (by decide) ?_
          refine lv_istore (lv' := [(7, .int 0), (5, .long (-1)), (0, .ref (xMo 0)), (1, .int p1), (2, .int p2), (3, .int v3_107), (4, .int v4_107)]) hx hb d_Mo_pack_113 hl (by decide) rfl (fun ls hl => ?_)
          refine lv_iconst (v := 0) hx hb d_Mo_pack_115 (by decide) ?_
          refine lv_istore (lv' := [(8, .int 0), (7, .int 0), (5, .long (-1)), (0, .ref (xMo 0)), (1, .int p1), (2, .int p2), (3, .int v3_107), (4, .int v4_107)]) hx hb d_Mo_pack_116 hl (by decide) rfl (fun ls hl => ?_)
          have K220 : ∀ (v3_220 : Int32) (v4_220 : Int32) (v5_220 : Int64) (v7_220 : Int32) (v8_220 : Int32) (gMo_220 : St) (H : Heap) (locs : List Loc) (ls : Array Slot), va_P D vwCl (wMo xMo cI cZ gMo_220) H → va_D A (wMo xMo cI cZ gMo_220) → va_S A s.heap H locs → lv_has ls 11 [(0, .ref (xMo 0)), (1, .int p1), (2, .int p2), (3, .int v3_220), (4, .int v4_220), (5, .long v5_220), (7, .int v7_220), (8, .int v8_220)] → f_Mo_pack_X220 p1 p2 v3_220 v4_220 v5_220 v7_220 v8_220 gMo_220 = some (r, gMo1) → W p l e rm_Mo_pack_r s m args below meth c H locs 0 0 Q (F0 m 220 ls []) := by
            intro v3_220 v4_220 v5_220 v7_220 v8_220 gMo_220 H locs ls hP hD hS hl h
            unfold f_Mo_pack_X220 at h
            refine lv_lload hx hb d_Mo_pack_220 (lv_at hl 5 rfl) ?_
            refine lv_lconst (v := 0) hx hb d_Mo_pack_222 (by decide) ?_
            refine W.lcmp hx hb d_Mo_pack_223 ?_
            refine lv_if_ge (tgt := 229) hx hb d_Mo_pack_224 (by decide) (fun c_5 => ?_) (fun c_5 => ?_)
            · rw [if_pos c_5] at h
              refine lv_aload_n hx hb d_Mo_pack_229 rfl (lv_at hl 0 rfl) ?_
              refine lv_iload_n hx hb d_Mo_pack_230 rfl (lv_at hl 1 rfl) ?_
              refine lv_iload hx hb d_Mo_pack_231 (lv_at hl 6 rfl) ?_
              obtain ⟨gMo_6, hc_7, h⟩ := xv1_i h
              refine cVv (ws' := (wMo xMo cI cZ gMo_6)) (As := [.int p1, .int v7_220]) (rest := []) C0 hP hD hS hl.1 [0, 1, 2, 3, 4, 5, 6, 7, 8, 9, 10, 11, 12, 13, 14, 15] (c_Mo_turn_r l D cI cZ cJ xMo H.size gMo_220 p1 v7_220 gMo_6 hc_7) k_Mo_turn m_857 rfl rfl rfl rfl rfl (rp_all rfl rfl) ⟨by decide, by decide⟩ ⟨rfl, rfl⟩ rfl (Nat.le_of_ble_eq_true rfl) d_Mo_pack_233 ⟨Nat.zero_le _, Nat.zero_le _⟩ (fun H locs hP hD hS => ?_)
              refine lv_aload_n hx hb d_Mo_pack_236 rfl (lv_at hl 0 rfl) ?_
              refine lv_aload_n hx hb d_Mo_pack_237 rfl (lv_at hl 0 rfl) ?_
              refine lv_iload_n hx hb d_Mo_pack_238 rfl (lv_at hl 1 rfl) ?_
              refine lv_iload_n hx hb d_Mo_pack_239 rfl (lv_at hl 2 rfl) ?_
              obtain ⟨r_8, hc_9, h⟩ := xv1_i h
              refine cVi (ws' := (wMo xMo cI cZ gMo_6)) (As := [.int p1, .int p2]) (rest := [.ref (xMo 0)]) C0 hP hD hS hl.1 [0, 1, 2, 3, 4, 5, 6, 7, 8, 9, 10, 11, 12, 13, 14, 15] (c_Mo_lengthOf_r l D cI cZ cJ xMo H.size gMo_6 p1 p2 r_8 hc_9) k_Mo_lengthOf m_865 rfl rfl rfl rfl rfl (rp_same rfl) ⟨by decide, by decide⟩ ⟨rfl, rfl⟩ rfl (Nat.le_of_ble_eq_true rfl) d_Mo_pack_240 ⟨Nat.zero_le _, Nat.zero_le _⟩ (fun H locs hP hD hS => ?_)
              refine va_put (ci := 8) (v := .int r_8) (ty := .int) (C := R_Mo) (T := F_Mo) (N := 31) hx hb hts i_Mo t_Mo o_Mo n_Mo hown hK hP hD hS 0 rfl rfl 14 (by decide) (hts _ m_718) (fun _ h9 => h9) rfl (by decide +kernel) rfl rfl (Nat.le_of_ble_eq_true rfl) d_Mo_pack_243 (fun H locs hP hD hS => ?_)
              obtain ⟨gMo_10, egMo_10, h⟩ := letb_i h
              have hP : va_P D vwCl (wMo xMo cI cZ gMo_10) H := by rw [egMo_10, u_Mo_0_14]; exact hP
              have hD : va_D A (wMo xMo cI cZ gMo_10) := by rw [egMo_10, u_Mo_0_14]; exact hD
              refine lv_aload_n hx hb d_Mo_pack_246 rfl (lv_at hl 0 rfl) ?_
              refine lv_aload_n hx hb d_Mo_pack_247 rfl (lv_at hl 0 rfl) ?_
              refine lv_iload_n hx hb d_Mo_pack_248 rfl (lv_at hl 1 rfl) ?_
              refine lv_iconst (v := 1) hx hb d_Mo_pack_249 (by decide) ?_
              refine lv_iload_n hx hb d_Mo_pack_250 rfl (lv_at hl 2 rfl) ?_
              obtain ⟨r_11, hc_12, h⟩ := xv1_i h
              refine cVi (ws' := (wMo xMo cI cZ gMo_10)) (As := [.int p1, .int 1, .int p2]) (rest := [.ref (xMo 0)]) C0 hP hD hS hl.1 [0, 1, 2, 3, 4, 5, 6, 7, 8, 9, 10, 11, 12, 13, 14, 15] (c_Mo_widest_r l D cI cZ cJ xMo H.size gMo_10 p1 1 p2 r_11 hc_12) k_Mo_widest m_873 rfl rfl rfl rfl rfl (rp_same rfl) ⟨by decide, by decide⟩ ⟨rfl, rfl⟩ rfl (Nat.le_of_ble_eq_true rfl) d_Mo_pack_251 ⟨Nat.zero_le _, Nat.zero_le _⟩ (fun H locs hP hD hS => ?_)
              refine va_put (ci := 8) (v := .int r_11) (ty := .int) (C := R_Mo) (T := F_Mo) (N := 31) hx hb hts i_Mo t_Mo o_Mo n_Mo hown hK hP hD hS 0 rfl rfl 15 (by decide) (hts _ m_719) (fun _ h9 => h9) rfl (by decide +kernel) rfl rfl (Nat.le_of_ble_eq_true rfl) d_Mo_pack_254 (fun H locs hP hD hS => ?_)
              obtain ⟨gMo_13, egMo_13, h⟩ := letb_i h
              have hP : va_P D vwCl (wMo xMo cI cZ gMo_13) H := by rw [egMo_13, u_Mo_0_15]; exact hP
              have hD : va_D A (wMo xMo cI cZ gMo_13) := by rw [egMo_13, u_Mo_0_15]; exact hD
              refine lv_aload_n hx hb d_Mo_pack_257 rfl (lv_at hl 0 rfl) ?_
              refine lv_aload_n hx hb d_Mo_pack_258 rfl (lv_at hl 0 rfl) ?_
              refine lv_iload_n hx hb d_Mo_pack_259 rfl (lv_at hl 1 rfl) ?_
              refine lv_iconst (v := 2) hx hb d_Mo_pack_260 (by decide) ?_
              refine lv_iload_n hx hb d_Mo_pack_261 rfl (lv_at hl 2 rfl) ?_
              obtain ⟨r_14, hc_15, h⟩ := xv1_i h
              refine cVi (ws' := (wMo xMo cI cZ gMo_13)) (As := [.int p1, .int 2, .int p2]) (rest := [.ref (xMo 0)]) C0 hP hD hS hl.1 [0, 1, 2, 3, 4, 5, 6, 7, 8, 9, 10, 11, 12, 13, 14, 15] (c_Mo_widest_r l D cI cZ cJ xMo H.size gMo_13 p1 2 p2 r_14 hc_15) k_Mo_widest m_873 rfl rfl rfl rfl rfl (rp_same rfl) ⟨by decide, by decide⟩ ⟨rfl, rfl⟩ rfl (Nat.le_of_ble_eq_true rfl) d_Mo_pack_262 ⟨Nat.zero_le _, Nat.zero_le _⟩ (fun H locs hP hD hS => ?_)
              refine va_put (ci := 8) (v := .int r_14) (ty := .int) (C := R_Mo) (T := F_Mo) (N := 31) hx hb hts i_Mo t_Mo o_Mo n_Mo hown hK hP hD hS 0 rfl rfl 16 (by decide) (hts _ m_720) (fun _ h9 => h9) rfl (by decide +kernel) rfl rfl (Nat.le_of_ble_eq_true rfl) d_Mo_pack_265 (fun H locs hP hD hS => ?_)
              obtain ⟨gMo_16, egMo_16, h⟩ := letb_i h
              have hP : va_P D vwCl (wMo xMo cI cZ gMo_16) H := by rw [egMo_16, u_Mo_0_16]; exact hP
              have hD : va_D A (wMo xMo cI cZ gMo_16) := by rw [egMo_16, u_Mo_0_16]; exact hD
              refine lv_aload_n hx hb d_Mo_pack_268 rfl (lv_at hl 0 rfl) ?_
              refine lv_iload_n hx hb d_Mo_pack_269 rfl (lv_at hl 2 rfl) ?_
              refine va_put (ci := 8) (v := .int p2) (ty := .int) (C := R_Mo) (T := F_Mo) (N := 31) hx hb hts i_Mo t_Mo o_Mo n_Mo hown hK hP hD hS 0 rfl rfl 13 (by decide) (hts _ m_717) (fun _ h9 => h9) rfl (by decide +kernel) rfl rfl (Nat.le_of_ble_eq_true rfl) d_Mo_pack_270 (fun H locs hP hD hS => ?_)
              obtain ⟨gMo_17, egMo_17, h⟩ := letb_i h
              have hP : va_P D vwCl (wMo xMo cI cZ gMo_17) H := by rw [egMo_17, u_Mo_0_13]; exact hP
              have hD : va_D A (wMo xMo cI cZ gMo_17) := by rw [egMo_17, u_Mo_0_13]; exact hD
              refine lv_aload_n hx hb d_Mo_pack_273 rfl (lv_at hl 0 rfl) ?_
              refine lv_iconst (v := 1) hx hb d_Mo_pack_274 (by decide) ?_
              refine va_put (ci := 8) (v := .int 1) (ty := .boolean) (C := R_Mo) (T := F_Mo) (N := 31) hx hb hts i_Mo t_Mo o_Mo n_Mo hown hK hP hD hS 0 rfl rfl 10 (by decide) (hts _ m_714) (fun _ h9 => h9) rfl (by decide +kernel) rfl rfl (Nat.le_of_ble_eq_true rfl) d_Mo_pack_275 (fun H locs hP hD hS => ?_)
              obtain ⟨gMo_18, egMo_18, h⟩ := letb_i h
              have hP : va_P D vwCl (wMo xMo cI cZ gMo_18) H := by rw [egMo_18, u_Mo_0_10]; exact hP
              have hD : va_D A (wMo xMo cI cZ gMo_18) := by rw [egMo_18, u_Mo_0_10]; exact hD
              refine lv_iconst (v := 0) hx hb d_Mo_pack_278 (by decide) ?_
              refine lv_istore (lv' := [(8, .int 0), (0, .ref (xMo 0)), (1, .int p1), (2, .int p2), (3, .int v3_220), (4, .int v4_220), (5, .long v5_220), (7, .int v7_220)]) hx hb d_Mo_pack_279 hl (by decide) rfl (fun ls hl => ?_)
              have K308 : ∀ (v3_308 : Int32) (v4_308 : Int32) (v5_308 : Int64) (v7_308 : Int32) (v8_308 : Int32) (gMo_308 : St) (H : Heap) (locs : List Loc) (ls : Array Slot), va_P D vwCl (wMo xMo cI cZ gMo_308) H → va_D A (wMo xMo cI cZ gMo_308) → va_S A s.heap H locs → lv_has ls 11 [(0, .ref (xMo 0)), (1, .int p1), (2, .int p2), (3, .int v3_308), (4, .int v4_308), (5, .long v5_308), (7, .int v7_308), (8, .int v8_308)] → f_Mo_pack_X308 v3_308 v4_308 v5_308 v7_308 v8_308 gMo_308 = some (r, gMo1) → W p l e rm_Mo_pack_r s m args below meth c H locs 0 0 Q (F0 m 308 ls []) := by
                intro v3_308 v4_308 v5_308 v7_308 v8_308 gMo_308 H locs ls hP hD hS hl h
                unfold f_Mo_pack_X308 at h
                refine lv_iload hx hb d_Mo_pack_308 (lv_at hl 4 rfl) ?_
                cases h
                rw [hQ]
                exact mi_ret C0 hr rfl hlk hP hD hS d_Mo_pack_310
              have K281 : ∀ (n : Nat) (v3_281 : Int32) (v4_281 : Int32) (v5_281 : Int64) (v7_281 : Int32) (v8_281 : Int32) (gMo_281 : St) (H : Heap) (locs : List Loc) (ls : Array Slot), va_P D vwCl (wMo xMo cI cZ gMo_281) H → va_D A (wMo xMo cI cZ gMo_281) → va_S A s.heap H locs → lv_has ls 11 [(0, .ref (xMo 0)), (1, .int p1), (2, .int p2), (3, .int v3_281), (4, .int v4_281), (5, .long v5_281), (7, .int v7_281), (8, .int v8_281)] → it6 (f_Mo_pack_L281) n v3_281 v4_281 v5_281 v7_281 v8_281 gMo_281 = some (r, gMo1) → W p l e rm_Mo_pack_r s m args below meth c H locs 0 0 Q (F0 m 281 ls []) := by
                intro n
                induction n with
                | zero => intro v3_281 v4_281 v5_281 v7_281 v8_281 gMo_281 H locs ls hP hD hS hl h; exact (it6_0 h).elim
                | succ n ih =>
                  intro v3_281 v4_281 v5_281 v7_281 v8_281 gMo_281 H locs ls hP hD hS hl h
                  rw [it6_s, f_Mo_pack_L281] at h
                  generalize it6 (f_Mo_pack_L281) n = kc_281 at h ih
                  refine lv_iload hx hb d_Mo_pack_281 (lv_at hl 7 rfl) ?_
                  refine lv_bipush (v := 6) hx hb d_Mo_pack_283 (by decide) ?_
                  refine lv_icmp_ge (tgt := 308) hx hb d_Mo_pack_285 (by decide) (fun c_19 => ?_) (fun c_19 => ?_)
                  · rw [if_pos c_19] at h
                    exact K308 v3_281 v4_281 v5_281 v7_281 v8_281 gMo_281 H locs ls hP hD hS (lv_sub hl [0, 1, 2, 3, 4, 5, 6, 7] rfl) h
                  · rw [if_neg c_19] at h
                    refine lv_aload_n hx hb d_Mo_pack_288 rfl (lv_at hl 0 rfl) ?_
                    refine va_get (ci := 8) (v := .ref (xMo 9)) (C := R_Mo) (T := F_Mo) (N := 31) hx hb hts i_Mo hown hK hP 0 rfl rfl 11 (by decide) (hts _ m_715) (fun _ h9 => h9) rfl d_Mo_pack_289 ?_
                    refine lv_iload hx hb d_Mo_pack_292 (lv_at hl 7 rfl) ?_
                    refine lv_aload_n hx hb d_Mo_pack_294 rfl (lv_at hl 0 rfl) ?_
                    refine va_get (ci := 8) (v := .ref (xMo 10)) (C := R_Mo) (T := F_Mo) (N := 31) hx hb hts i_Mo hown hK hP 0 rfl rfl 12 (by decide) (hts _ m_716) (fun _ h9 => h9) rfl d_Mo_pack_295 ?_
                    refine lv_iload hx hb d_Mo_pack_298 (lv_at hl 7 rfl) ?_
                    obtain ⟨hi_20, h⟩ := gb_i h
                    refine va_iald hx hb hK hP 10 0 rfl rfl (inb_in hi_20) d_Mo_pack_300 ?_
                    obtain ⟨x_21, ex_21, h⟩ := letb_i h
                    refine lv_topn ex_21 ?_
                    obtain ⟨hi_22, h⟩ := gb_i h
                    refine va_iast hx hb hK hP hD hS 9 0 rfl rfl (inb_in hi_22) d_Mo_pack_301 (fun H locs hP hD hS => ?_)
                    obtain ⟨gMo_23, egMo_23, h⟩ := letb_i h
                    have hP : va_P D vwCl (wMo xMo cI cZ gMo_23) H := by rw [egMo_23, u_Mo_9]; exact hP
                    have hD : va_D A (wMo xMo cI cZ gMo_23) := by rw [egMo_23, u_Mo_9]; exact hD
                    obtain ⟨x_24, ex_24, h⟩ := letb_i h
                    refine lv_iinc (v := x_24) (lv' := [(8, .int x_24), (0, .ref (xMo 0)), (1, .int p1), (2, .int p2), (3, .int v3_281), (4, .int v4_281), (5, .long v5_281), (7, .int v7_281)]) hx hb d_Mo_pack_302 hl (k := 7) rfl (by rw [ex_24]; rfl) (by decide) rfl (fun ls hl => ?_)
                    refine lv_goto (tgt := 281) hx hb d_Mo_pack_305 (by decide) ?_
                    exact ih v3_281 v4_281 v5_281 v7_281 x_24 gMo_23 H locs ls hP hD hS (lv_sub hl [1, 2, 3, 4, 5, 6, 7, 0] rfl) h
              exact K281 FU v3_220 v4_220 v5_220 v7_220 0 gMo_18 H locs ls hP hD hS (lv_sub hl [1, 2, 3, 4, 5, 6, 7, 0] rfl) h
            · rw [if_neg c_5] at h
              refine lv_iconst (v := (-1)) hx hb d_Mo_pack_227 (by decide) ?_
              cases h
              rw [hQ]
              exact mi_ret C0 hr rfl hlk hP hD hS d_Mo_pack_228
          have K118 : ∀ (n : Nat) (v3_118 : Int32) (v4_118 : Int32) (v5_118 : Int64) (v7_118 : Int32) (v8_118 : Int32) (gMo_118 : St) (H : Heap) (locs : List Loc) (ls : Array Slot), va_P D vwCl (wMo xMo cI cZ gMo_118) H → va_D A (wMo xMo cI cZ gMo_118) → va_S A s.heap H locs → lv_has ls 11 [(0, .ref (xMo 0)), (1, .int p1), (2, .int p2), (3, .int v3_118), (4, .int v4_118), (5, .long v5_118), (7, .int v7_118), (8, .int v8_118)] → it6 (f_Mo_pack_L118 p1 p2) n v3_118 v4_118 v5_118 v7_118 v8_118 gMo_118 = some (r, gMo1) → W p l e rm_Mo_pack_r s m args below meth c H locs 0 0 Q (F0 m 118 ls []) := by
            intro n
            induction n with
            | zero => intro v3_118 v4_118 v5_118 v7_118 v8_118 gMo_118 H locs ls hP hD hS hl h; exact (it6_0 h).elim
            | succ n ih =>
              intro v3_118 v4_118 v5_118 v7_118 v8_118 gMo_118 H locs ls hP hD hS hl h
              rw [it6_s, f_Mo_pack_L118] at h
              generalize it6 (f_Mo_pack_L118 p1 p2) n = kc_118 at h ih
              refine lv_iload hx hb d_Mo_pack_118 (lv_at hl 7 rfl) ?_
              refine lv_iload_n hx hb d_Mo_pack_120 rfl (lv_at hl 3 rfl) ?_
              refine lv_icmp_ge (tgt := 220) hx hb d_Mo_pack_121 (by decide) (fun c_25 => ?_) (fun c_25 => ?_)
              · rw [if_pos c_25] at h
                exact K220 v3_118 v4_118 v5_118 v7_118 v8_118 gMo_118 H locs ls hP hD hS (lv_sub hl [0, 1, 2, 3, 4, 5, 6, 7] rfl) h
              · rw [if_neg c_25] at h
                refine lv_aload_n hx hb d_Mo_pack_124 rfl (lv_at hl 0 rfl) ?_
                refine lv_iload_n hx hb d_Mo_pack_125 rfl (lv_at hl 1 rfl) ?_
                refine lv_iload hx hb d_Mo_pack_126 (lv_at hl 7 rfl) ?_
                obtain ⟨gMo_26, hc_27, h⟩ := xv1_i h
                refine cVv (ws' := (wMo xMo cI cZ gMo_26)) (As := [.int p1, .int v8_118]) (rest := []) C0 hP hD hS hl.1 [0, 1, 2, 3, 4, 5, 6, 7, 8, 9, 10, 11, 12, 13, 14, 15] (c_Mo_turn_r l D cI cZ cJ xMo H.size gMo_118 p1 v8_118 gMo_26 hc_27) k_Mo_turn m_857 rfl rfl rfl rfl rfl (rp_all rfl rfl) ⟨by decide, by decide⟩ ⟨rfl, rfl⟩ rfl (Nat.le_of_ble_eq_true rfl) d_Mo_pack_128 ⟨Nat.zero_le _, Nat.zero_le _⟩ (fun H locs hP hD hS => ?_)
                refine lv_aload_n hx hb d_Mo_pack_131 rfl (lv_at hl 0 rfl) ?_
                refine lv_iload_n hx hb d_Mo_pack_132 rfl (lv_at hl 1 rfl) ?_
                obtain ⟨r_28, hc_29, h⟩ := xv1_i h
                refine cVi (ws' := (wMo xMo cI cZ gMo_26)) (As := [.int p1]) (rest := []) C0 hP hD hS hl.1 [0, 1, 2, 3, 4, 5, 6, 7, 8, 9, 10, 11, 12, 13, 14, 15] (c_Mo_stands_r l D cI cZ cJ xMo H.size gMo_26 p1 r_28 hc_29) k_Mo_stands m_861 rfl rfl rfl rfl rfl (rp_same rfl) ⟨by decide, by decide⟩ ⟨rfl, rfl⟩ rfl (Nat.le_of_ble_eq_true rfl) d_Mo_pack_133 ⟨Nat.zero_le _, Nat.zero_le _⟩ (fun H locs hP hD hS => ?_)
                have K214 : ∀ (v3_214 : Int32) (v4_214 : Int32) (v5_214 : Int64) (v7_214 : Int32) (v8_214 : Int32) (gMo_214 : St) (H : Heap) (locs : List Loc) (ls : Array Slot), va_P D vwCl (wMo xMo cI cZ gMo_214) H → va_D A (wMo xMo cI cZ gMo_214) → va_S A s.heap H locs → lv_has ls 11 [(0, .ref (xMo 0)), (1, .int p1), (2, .int p2), (3, .int v3_214), (4, .int v4_214), (5, .long v5_214), (7, .int v7_214), (8, .int v8_214)] → f_Mo_pack_J214 kc_118 v3_214 v4_214 v5_214 v7_214 v8_214 gMo_214 = some (r, gMo1) → W p l e rm_Mo_pack_r s m args below meth c H locs 0 0 Q (F0 m 214 ls []) := by
                  intro v3_214 v4_214 v5_214 v7_214 v8_214 gMo_214 H locs ls hP hD hS hl h
                  unfold f_Mo_pack_J214 at h
                  obtain ⟨x_30, ex_30, h⟩ := letb_i h
                  refine lv_iinc (v := x_30) (lv' := [(8, .int x_30), (0, .ref (xMo 0)), (1, .int p1), (2, .int p2), (3, .int v3_214), (4, .int v4_214), (5, .long v5_214), (7, .int v7_214)]) hx hb d_Mo_pack_214 hl (k := 7) rfl (by rw [ex_30]; rfl) (by decide) rfl (fun ls hl => ?_)
                  refine lv_goto (tgt := 118) hx hb d_Mo_pack_217 (by decide) ?_
                  exact ih v3_214 v4_214 v5_214 v7_214 x_30 gMo_214 H locs ls hP hD hS (lv_sub hl [1, 2, 3, 4, 5, 6, 7, 0] rfl) h
                refine lv_if_eq (tgt := 214) hx hb d_Mo_pack_136 (by decide) (fun c_31 => ?_) (fun c_31 => ?_)
                · rw [if_pos c_31] at h
                  exact K214 v3_118 v4_118 v5_118 v7_118 v8_118 gMo_26 H locs ls hP hD hS (lv_sub hl [0, 1, 2, 3, 4, 5, 6, 7] rfl) h
                · rw [if_neg c_31] at h
                  refine lv_aload_n hx hb d_Mo_pack_139 rfl (lv_at hl 0 rfl) ?_
                  refine lv_iload_n hx hb d_Mo_pack_140 rfl (lv_at hl 1 rfl) ?_
                  refine lv_iload_n hx hb d_Mo_pack_141 rfl (lv_at hl 2 rfl) ?_
                  obtain ⟨r_32, hc_33, h⟩ := xv1_i h
                  refine cVi (ws' := (wMo xMo cI cZ gMo_26)) (As := [.int p1, .int p2]) (rest := []) C0 hP hD hS hl.1 [0, 1, 2, 3, 4, 5, 6, 7, 8, 9, 10, 11, 12, 13, 14, 15] (c_Mo_lengthOf_r l D cI cZ cJ xMo H.size gMo_26 p1 p2 r_32 hc_33) k_Mo_lengthOf m_865 rfl rfl rfl rfl rfl (rp_same rfl) ⟨by decide, by decide⟩ ⟨rfl, rfl⟩ rfl (Nat.le_of_ble_eq_true rfl) d_Mo_pack_142 ⟨Nat.zero_le _, Nat.zero_le _⟩ (fun H locs hP hD hS => ?_)
                  refine lv_i2l (v := (r_32 : Int32).toInt64) hx hb d_Mo_pack_145 rfl ?_
                  refine lv_aload_n hx hb d_Mo_pack_146 rfl (lv_at hl 0 rfl) ?_
                  refine lv_iload_n hx hb d_Mo_pack_147 rfl (lv_at hl 1 rfl) ?_
                  refine lv_iconst (v := 1) hx hb d_Mo_pack_148 (by decide) ?_
                  refine lv_iload_n hx hb d_Mo_pack_149 rfl (lv_at hl 2 rfl) ?_
                  obtain ⟨r_34, hc_35, h⟩ := xv1_i h
                  refine cVi (ws' := (wMo xMo cI cZ gMo_26)) (As := [.int p1, .int 1, .int p2]) (rest := [.long ((r_32 : Int32).toInt64)]) C0 hP hD hS hl.1 [0, 1, 2, 3, 4, 5, 6, 7, 8, 9, 10, 11, 12, 13, 14, 15] (c_Mo_widest_r l D cI cZ cJ xMo H.size gMo_26 p1 1 p2 r_34 hc_35) k_Mo_widest m_873 rfl rfl rfl rfl rfl (rp_same rfl) ⟨by decide, by decide⟩ ⟨rfl, rfl⟩ rfl (Nat.le_of_ble_eq_true rfl) d_Mo_pack_150 ⟨Nat.zero_le _, Nat.zero_le _⟩ (fun H locs hP hD hS => ?_)
                  refine lv_i2l (v := (r_34 : Int32).toInt64) hx hb d_Mo_pack_153 rfl ?_
                  refine lv_lmul hx hb d_Mo_pack_154 ?_
                  refine lv_aload_n hx hb d_Mo_pack_155 rfl (lv_at hl 0 rfl) ?_
                  refine lv_iload_n hx hb d_Mo_pack_156 rfl (lv_at hl 1 rfl) ?_
                  refine lv_iconst (v := 2) hx hb d_Mo_pack_157 (by decide) ?_
                  refine lv_iload_n hx hb d_Mo_pack_158 rfl (lv_at hl 2 rfl) ?_
                  obtain ⟨r_36, hc_37, h⟩ := xv1_i h
                  refine cVi (ws' := (wMo xMo cI cZ gMo_26)) (As := [.int p1, .int 2, .int p2]) (rest := [.long (((r_32 : Int32).toInt64) * ((r_34 : Int32).toInt64))]) C0 hP hD hS hl.1 [0, 1, 2, 3, 4, 5, 6, 7, 8, 9, 10, 11, 12, 13, 14, 15] (c_Mo_widest_r l D cI cZ cJ xMo H.size gMo_26 p1 2 p2 r_36 hc_37) k_Mo_widest m_873 rfl rfl rfl rfl rfl (rp_same rfl) ⟨by decide, by decide⟩ ⟨rfl, rfl⟩ rfl (Nat.le_of_ble_eq_true rfl) d_Mo_pack_159 ⟨Nat.zero_le _, Nat.zero_le _⟩ (fun H locs hP hD hS => ?_)
                  refine lv_i2l (v := (r_36 : Int32).toInt64) hx hb d_Mo_pack_162 rfl ?_
                  refine lv_lmul hx hb d_Mo_pack_163 ?_
                  obtain ⟨x_38, ex_38, h⟩ := letb_i h
                  refine lv_topnl ex_38 ?_
                  refine lv_lstore (lv' := [(9, .long x_38), (0, .ref (xMo 0)), (1, .int p1), (2, .int p2), (3, .int v3_118), (4, .int v4_118), (5, .long v5_118), (7, .int v7_118), (8, .int v8_118)]) hx hb d_Mo_pack_164 hl (by decide) rfl (fun ls hl => ?_)
                  refine lv_lload hx hb d_Mo_pack_166 (lv_at hl 6 rfl) ?_
                  refine lv_lconst (v := 0) hx hb d_Mo_pack_168 (by decide) ?_
                  refine W.lcmp hx hb d_Mo_pack_169 ?_
                  have K188 : ∀ (s0_188 : Int32) (v3_188 : Int32) (v4_188 : Int32) (v5_188 : Int64) (v7_188 : Int32) (v8_188 : Int32) (v9_188 : Int64) (gMo_188 : St) (H : Heap) (locs : List Loc) (ls : Array Slot), va_P D vwCl (wMo xMo cI cZ gMo_188) H → va_D A (wMo xMo cI cZ gMo_188) → va_S A s.heap H locs → lv_has ls 11 [(0, .ref (xMo 0)), (1, .int p1), (2, .int p2), (3, .int v3_188), (4, .int v4_188), (5, .long v5_188), (7, .int v7_188), (8, .int v8_188), (9, .long v9_188)] → f_Mo_pack_J188 kc_118 s0_188 v3_188 v4_188 v5_188 v7_188 v8_188 v9_188 gMo_188 = some (r, gMo1) → W p l e rm_Mo_pack_r s m args below meth c H locs 0 0 Q (F0 m 188 ls [.int s0_188]) := by
                    intro s0_188 v3_188 v4_188 v5_188 v7_188 v8_188 v9_188 gMo_188 H locs ls hP hD hS hl h
                    unfold f_Mo_pack_J188 at h
                    refine lv_istore (lv' := [(7, .int s0_188), (0, .ref (xMo 0)), (1, .int p1), (2, .int p2), (3, .int v3_188), (4, .int v4_188), (5, .long v5_188), (8, .int v8_188), (9, .long v9_188)]) hx hb d_Mo_pack_188 hl (by decide) rfl (fun ls hl => ?_)
                    refine lv_lload hx hb d_Mo_pack_190 (lv_at hl 6 rfl) ?_
                    refine lv_lconst (v := 0) hx hb d_Mo_pack_192 (by decide) ?_
                    refine W.lcmp hx hb d_Mo_pack_193 ?_
                    have K212 : ∀ (s0_212 : Int64) (v3_212 : Int32) (v4_212 : Int32) (v5_212 : Int64) (v7_212 : Int32) (v8_212 : Int32) (v9_212 : Int64) (gMo_212 : St) (H : Heap) (locs : List Loc) (ls : Array Slot), va_P D vwCl (wMo xMo cI cZ gMo_212) H → va_D A (wMo xMo cI cZ gMo_212) → va_S A s.heap H locs → lv_has ls 11 [(0, .ref (xMo 0)), (1, .int p1), (2, .int p2), (3, .int v3_212), (4, .int v4_212), (5, .long v5_212), (7, .int v7_212), (8, .int v8_212), (9, .long v9_212)] → f_Mo_pack_J212 kc_118 s0_212 v3_212 v4_212 v5_212 v7_212 v8_212 v9_212 gMo_212 = some (r, gMo1) → W p l e rm_Mo_pack_r s m args below meth c H locs 0 0 Q (F0 m 212 ls [.long s0_212]) := by
                      intro s0_212 v3_212 v4_212 v5_212 v7_212 v8_212 v9_212 gMo_212 H locs ls hP hD hS hl h
                      unfold f_Mo_pack_J212 at h
                      refine lv_lstore (lv' := [(5, .long s0_212), (0, .ref (xMo 0)), (1, .int p1), (2, .int p2), (3, .int v3_212), (4, .int v4_212), (7, .int v7_212), (8, .int v8_212), (9, .long v9_212)]) hx hb d_Mo_pack_212 hl (by decide) rfl (fun ls hl => ?_)
                      exact K214 v3_212 v4_212 s0_212 v7_212 v8_212 gMo_212 H locs ls hP hD hS (lv_sub hl [1, 2, 3, 4, 5, 0, 6, 7] rfl) h
                    have K205 : ∀ (v3_205 : Int32) (v4_205 : Int32) (v5_205 : Int64) (v7_205 : Int32) (v8_205 : Int32) (v9_205 : Int64) (gMo_205 : St) (H : Heap) (locs : List Loc) (ls : Array Slot), va_P D vwCl (wMo xMo cI cZ gMo_205) H → va_D A (wMo xMo cI cZ gMo_205) → va_S A s.heap H locs → lv_has ls 11 [(0, .ref (xMo 0)), (1, .int p1), (2, .int p2), (3, .int v3_205), (4, .int v4_205), (5, .long v5_205), (7, .int v7_205), (8, .int v8_205), (9, .long v9_205)] → f_Mo_pack_J205 kc_118 v3_205 v4_205 v5_205 v7_205 v8_205 v9_205 gMo_205 = some (r, gMo1) → W p l e rm_Mo_pack_r s m args below meth c H locs 0 0 Q (F0 m 205 ls []) := by
                      intro v3_205 v4_205 v5_205 v7_205 v8_205 v9_205 gMo_205 H locs ls hP hD hS hl h
                      unfold f_Mo_pack_J205 at h
                      refine lv_lload hx hb d_Mo_pack_205 (lv_at hl 8 rfl) ?_
                      refine lv_goto (tgt := 212) hx hb d_Mo_pack_207 (by decide) ?_
                      exact K212 v9_205 v3_205 v4_205 v5_205 v7_205 v8_205 v9_205 gMo_205 H locs ls hP hD hS (lv_sub hl [0, 1, 2, 3, 4, 5, 6, 7, 8] rfl) h
                    refine lv_if_lt (tgt := 205) hx hb d_Mo_pack_194 (by decide) (fun c_39 => ?_) (fun c_39 => ?_)
                    · rw [if_pos c_39] at h
                      exact K205 v3_188 v4_188 v5_188 s0_188 v8_188 v9_188 gMo_188 H locs ls hP hD hS (lv_sub hl [1, 2, 3, 4, 5, 6, 0, 7, 8] rfl) h
                    · rw [if_neg c_39] at h
                      refine lv_lload hx hb d_Mo_pack_197 (lv_at hl 8 rfl) ?_
                      refine lv_lload hx hb d_Mo_pack_199 (lv_at hl 6 rfl) ?_
                      refine W.lcmp hx hb d_Mo_pack_201 ?_
                      refine lv_if_ge (tgt := 210) hx hb d_Mo_pack_202 (by decide) (fun c_40 => ?_) (fun c_40 => ?_)
                      · rw [if_pos c_40] at h
                        refine lv_lload hx hb d_Mo_pack_210 (lv_at hl 6 rfl) ?_
                        exact K212 v5_188 v3_188 v4_188 v5_188 s0_188 v8_188 v9_188 gMo_188 H locs ls hP hD hS (lv_sub hl [1, 2, 3, 4, 5, 6, 0, 7, 8] rfl) h
                      · rw [if_neg c_40] at h
                        exact K205 v3_188 v4_188 v5_188 s0_188 v8_188 v9_188 gMo_188 H locs ls hP hD hS (lv_sub hl [1, 2, 3, 4, 5, 6, 0, 7, 8] rfl) h
                  have K181 : ∀ (v3_181 : Int32) (v4_181 : Int32) (v5_181 : Int64) (v7_181 : Int32) (v8_181 : Int32) (v9_181 : Int64) (gMo_181 : St) (H : Heap) (locs : List Loc) (ls : Array Slot), va_P D vwCl (wMo xMo cI cZ gMo_181) H → va_D A (wMo xMo cI cZ gMo_181) → va_S A s.heap H locs → lv_has ls 11 [(0, .ref (xMo 0)), (1, .int p1), (2, .int p2), (3, .int v3_181), (4, .int v4_181), (5, .long v5_181), (7, .int v7_181), (8, .int v8_181), (9, .long v9_181)] → f_Mo_pack_J181 kc_118 v3_181 v4_181 v5_181 v7_181 v8_181 v9_181 gMo_181 = some (r, gMo1) → W p l e rm_Mo_pack_r s m args below meth c H locs 0 0 Q (F0 m 181 ls []) := by
                    intro v3_181 v4_181 v5_181 v7_181 v8_181 v9_181 gMo_181 H locs ls hP hD hS hl h
                    unfold f_Mo_pack_J181 at h
                    refine lv_iload hx hb d_Mo_pack_181 (lv_at hl 7 rfl) ?_
                    refine lv_goto (tgt := 188) hx hb d_Mo_pack_183 (by decide) ?_
                    exact K188 v8_181 v3_181 v4_181 v5_181 v7_181 v8_181 v9_181 gMo_181 H locs ls hP hD hS (lv_sub hl [0, 1, 2, 3, 4, 5, 6, 7, 8] rfl) h
                  refine lv_if_lt (tgt := 181) hx hb d_Mo_pack_170 (by decide) (fun c_41 => ?_) (fun c_41 => ?_)
                  · rw [if_pos c_41] at h
                    exact K181 v3_118 v4_118 v5_118 v7_118 v8_118 x_38 gMo_26 H locs ls hP hD hS (lv_sub hl [1, 2, 3, 4, 5, 6, 7, 8, 0] rfl) h
                  · rw [if_neg c_41] at h
                    refine lv_lload hx hb d_Mo_pack_173 (lv_at hl 0 rfl) ?_
                    refine lv_lload hx hb d_Mo_pack_175 (lv_at hl 6 rfl) ?_
                    refine W.lcmp hx hb d_Mo_pack_177 ?_
                    refine lv_if_ge (tgt := 186) hx hb d_Mo_pack_178 (by decide) (fun c_42 => ?_) (fun c_42 => ?_)
                    · rw [if_pos c_42] at h
                      refine lv_iload hx hb d_Mo_pack_186 (lv_at hl 7 rfl) ?_
                      exact K188 v7_118 v3_118 v4_118 v5_118 v7_118 v8_118 x_38 gMo_26 H locs ls hP hD hS (lv_sub hl [1, 2, 3, 4, 5, 6, 7, 8, 0] rfl) h
                    · rw [if_neg c_42] at h
                      exact K181 v3_118 v4_118 v5_118 v7_118 v8_118 x_38 gMo_26 H locs ls hP hD hS (lv_sub hl [1, 2, 3, 4, 5, 6, 7, 8, 0] rfl) h
          exact K118 FU v3_107 v4_107 (-1) 0 0 gMo_107 H locs ls hP hD hS (lv_sub hl [3, 4, 5, 6, 7, 2, 1, 0] rfl) h
        have K56 : ∀ (n : Nat) (v3_56 : Int32) (v4_56 : Int32) (v5_56 : Int32) (gMo_56 : St) (H : Heap) (locs : List Loc) (ls : Array Slot), va_P D vwCl (wMo xMo cI cZ gMo_56) H → va_D A (wMo xMo cI cZ gMo_56) → va_S A s.heap H locs → lv_has ls 11 [(0, .ref (xMo 0)), (1, .int p1), (2, .int p2), (3, .int v3_56), (4, .int v4_56), (5, .int v5_56)] → it4 (f_Mo_pack_L56 p1 p2) n v3_56 v4_56 v5_56 gMo_56 = some (r, gMo1) → W p l e rm_Mo_pack_r s m args below meth c H locs 0 0 Q (F0 m 56 ls []) := by
          intro n
          induction n with
          | zero => intro v3_56 v4_56 v5_56 gMo_56 H locs ls hP hD hS hl h; exact (it4_0 h).elim
          | succ n ih =>
            intro v3_56 v4_56 v5_56 gMo_56 H locs ls hP hD hS hl h
            rw [it4_s, f_Mo_pack_L56] at h
            generalize it4 (f_Mo_pack_L56 p1 p2) n = kc_56 at h ih
            refine lv_iload hx hb d_Mo_pack_56 (lv_at hl 5 rfl) ?_
            refine lv_bipush (v := 6) hx hb d_Mo_pack_58 (by decide) ?_
            refine lv_icmp_ge (tgt := 107) hx hb d_Mo_pack_60 (by decide) (fun c_43 => ?_) (fun c_43 => ?_)
            · rw [if_pos c_43] at h
              exact K107 v3_56 v4_56 v5_56 gMo_56 H locs ls hP hD hS (lv_sub hl [0, 1, 2, 3, 4, 5] rfl) h
            · rw [if_neg c_43] at h
              refine lv_iload_n hx hb d_Mo_pack_63 rfl (lv_at hl 1 rfl) ?_
              refine lv_iload hx hb d_Mo_pack_64 (lv_at hl 5 rfl) ?_
              obtain ⟨r_44, hc_45, h⟩ := xv1_i h
              refine cSi (ws' := (wMo xMo cI cZ gMo_56)) (As := [.int p1, .int v5_56]) (rest := []) C0 hP hD hS hl.1 [] (c_Mo_isIn_r l D cI cZ cJ  H.size p1 v5_56 r_44 hc_45) k_Mo_isIn m_853 rfl rfl rfl (rp_same rfl) ⟨by decide, by decide⟩ ⟨rfl, rfl⟩ rfl (Nat.le_of_ble_eq_true rfl) d_Mo_pack_66 ⟨Nat.zero_le _, Nat.zero_le _⟩ (fun H locs hP hD hS => ?_)
              have K80 : ∀ (s0_80 : Int32) (v3_80 : Int32) (v4_80 : Int32) (v5_80 : Int32) (gMo_80 : St) (H : Heap) (locs : List Loc) (ls : Array Slot), va_P D vwCl (wMo xMo cI cZ gMo_80) H → va_D A (wMo xMo cI cZ gMo_80) → va_S A s.heap H locs → lv_has ls 11 [(0, .ref (xMo 0)), (1, .int p1), (2, .int p2), (3, .int v3_80), (4, .int v4_80), (5, .int v5_80)] → f_Mo_pack_J80 p1 kc_56 s0_80 v3_80 v4_80 v5_80 gMo_80 = some (r, gMo1) → W p l e rm_Mo_pack_r s m args below meth c H locs 0 0 Q (F0 m 80 ls [.int s0_80]) := by
                intro s0_80 v3_80 v4_80 v5_80 gMo_80 H locs ls hP hD hS hl h
                unfold f_Mo_pack_J80 at h
                refine lv_istore_n (lv' := [(3, .int s0_80), (0, .ref (xMo 0)), (1, .int p1), (2, .int p2), (4, .int v4_80), (5, .int v5_80)]) hx hb d_Mo_pack_80 rfl hl (by decide) rfl (fun ls hl => ?_)
                refine lv_iload_n hx hb d_Mo_pack_81 rfl (lv_at hl 2 rfl) ?_
                refine lv_iload hx hb d_Mo_pack_82 (lv_at hl 5 rfl) ?_
                obtain ⟨r_46, hc_47, h⟩ := xv1_i h
                refine cSi (ws' := (wMo xMo cI cZ gMo_80)) (As := [.int p1, .int v5_80]) (rest := []) C0 hP hD hS hl.1 [] (c_Mo_isIn_r l D cI cZ cJ  H.size p1 v5_80 r_46 hc_47) k_Mo_isIn m_853 rfl rfl rfl (rp_same rfl) ⟨by decide, by decide⟩ ⟨rfl, rfl⟩ rfl (Nat.le_of_ble_eq_true rfl) d_Mo_pack_84 ⟨Nat.zero_le _, Nat.zero_le _⟩ (fun H locs hP hD hS => ?_)
                have K99 : ∀ (s0_99 : Int32) (v3_99 : Int32) (v4_99 : Int32) (v5_99 : Int32) (gMo_99 : St) (H : Heap) (locs : List Loc) (ls : Array Slot), va_P D vwCl (wMo xMo cI cZ gMo_99) H → va_D A (wMo xMo cI cZ gMo_99) → va_S A s.heap H locs → lv_has ls 11 [(0, .ref (xMo 0)), (1, .int p1), (2, .int p2), (3, .int v3_99), (4, .int v4_99), (5, .int v5_99)] → f_Mo_pack_J99 kc_56 s0_99 v3_99 v4_99 v5_99 gMo_99 = some (r, gMo1) → W p l e rm_Mo_pack_r s m args below meth c H locs 0 0 Q (F0 m 99 ls [.int s0_99]) := by
                  intro s0_99 v3_99 v4_99 v5_99 gMo_99 H locs ls hP hD hS hl h
                  unfold f_Mo_pack_J99 at h
                  refine lv_istore (lv' := [(4, .int s0_99), (0, .ref (xMo 0)), (1, .int p1), (2, .int p2), (3, .int v3_99), (5, .int v5_99)]) hx hb d_Mo_pack_99 hl (by decide) rfl (fun ls hl => ?_)
                  obtain ⟨x_48, ex_48, h⟩ := letb_i h
                  refine lv_iinc (v := x_48) (lv' := [(5, .int x_48), (4, .int s0_99), (0, .ref (xMo 0)), (1, .int p1), (2, .int p2), (3, .int v3_99)]) hx hb d_Mo_pack_101 hl (k := 5) rfl (by rw [ex_48]; rfl) (by decide) rfl (fun ls hl => ?_)
                  refine lv_goto (tgt := 56) hx hb d_Mo_pack_104 (by decide) ?_
                  exact ih v3_99 s0_99 x_48 gMo_99 H locs ls hP hD hS (lv_sub hl [2, 3, 4, 5, 1, 0] rfl) h
                refine lv_if_eq (tgt := 97) hx hb d_Mo_pack_87 (by decide) (fun c_49 => ?_) (fun c_49 => ?_)
                · rw [if_pos c_49] at h
                  refine lv_iload hx hb d_Mo_pack_97 (lv_at hl 4 rfl) ?_
                  exact K99 v4_80 s0_80 v4_80 v5_80 gMo_80 H locs ls hP hD hS (lv_sub hl [1, 2, 3, 0, 4, 5] rfl) h
                · rw [if_neg c_49] at h
                  refine lv_iload hx hb d_Mo_pack_90 (lv_at hl 4 rfl) ?_
                  refine lv_iconst (v := 1) hx hb d_Mo_pack_92 (by decide) ?_
                  refine lv_iadd hx hb d_Mo_pack_93 ?_
                  refine lv_goto (tgt := 99) hx hb d_Mo_pack_94 (by decide) ?_
                  exact K99 (v4_80 + 1) s0_80 v4_80 v5_80 gMo_80 H locs ls hP hD hS (lv_sub hl [1, 2, 3, 0, 4, 5] rfl) h
              refine lv_if_eq (tgt := 79) hx hb d_Mo_pack_69 (by decide) (fun c_50 => ?_) (fun c_50 => ?_)
              · rw [if_pos c_50] at h
                refine lv_iload_n hx hb d_Mo_pack_79 rfl (lv_at hl 3 rfl) ?_
                exact K80 v3_56 v3_56 v4_56 v5_56 gMo_56 H locs ls hP hD hS (lv_sub hl [0, 1, 2, 3, 4, 5] rfl) h
              · rw [if_neg c_50] at h
                refine lv_bipush (v := 6) hx hb d_Mo_pack_72 (by decide) ?_
                refine lv_iload_n hx hb d_Mo_pack_74 rfl (lv_at hl 3 rfl) ?_
                refine lv_imul hx hb d_Mo_pack_75 ?_
                refine lv_goto (tgt := 80) hx hb d_Mo_pack_76 (by decide) ?_
                exact K80 (6 * v3_56) v3_56 v4_56 v5_56 gMo_56 H locs ls hP hD hS (lv_sub hl [0, 1, 2, 3, 4, 5] rfl) h
        exact K56 FU 1 0 0 gMo_2 H locs ls hP hD hS (lv_sub hl [3, 4, 5, 2, 1, 0] rfl) h
      · rw [if_pos c_4] at h
        refine lv_iconst (v := 0) hx hb d_Mo_pack_46 (by decide) ?_
        cases h
        rw [hQ]
        exact mi_ret C0 hr rfl hlk hP hD hS d_Mo_pack_47
    have K38 : ∀ (s1_38 : Int32) (H : Heap) (locs : List Loc) (ls : Array Slot), va_P D vwCl (wMo xMo cI cZ gMo) H → va_D A (wMo xMo cI cZ gMo) → va_S A s.heap H locs → lv_has ls 11 [(0, .ref (xMo 0)), (1, .int p1), (2, .int p2)] → f_Mo_pack_J38 gMo p1 p2 s1_38 = some (r, gMo1) → W p l e rm_Mo_pack_r s m args below meth c H locs 0 0 Q (F0 m 38 ls [.int s1_38, .ref (xMo 0)]) := by
      intro s1_38 H locs ls hP hD hS hl h
      unfold f_Mo_pack_J38 at h
      refine lv_iconst (v := 0) hx hb d_Mo_pack_38 (by decide) ?_
      exact K39 s1_38 0 H locs ls hP hD hS (lv_sub hl [0, 1, 2] rfl) h
    refine lv_if_eq (tgt := 38) hx hb d_Mo_pack_21 (by decide) (fun c_51 => ?_) (fun c_51 => ?_)
    · rw [if_pos c_51] at h
      exact K38 s1_20 H locs ls hP hD hS (lv_sub hl [0, 1, 2] rfl) h
    · rw [if_neg c_51] at h
      refine lv_iload_n hx hb d_Mo_pack_24 rfl (lv_at hl 2 rfl) ?_
      refine lv_iconst (v := 0) hx hb d_Mo_pack_25 (by decide) ?_
      refine lv_bipush (v := 20) hx hb d_Mo_pack_26 (by decide) ?_
      obtain ⟨r_52, hc_53, h⟩ := xv1_i h
      refine cSi (ws' := (wMo xMo cI cZ gMo)) (As := [.int p2, .int 0, .int 20]) (rest := [.int s1_20, .ref (xMo 0)]) C0 hP hD hS hl.1 [] (c_Mo_within_r l D cI cZ cJ  H.size p2 0 20 r_52 hc_53) k_Mo_within m_806 rfl rfl rfl (rp_same rfl) ⟨by decide, by decide⟩ ⟨rfl, rfl⟩ rfl (Nat.le_of_ble_eq_true rfl) d_Mo_pack_28 ⟨Nat.zero_le _, Nat.zero_le _⟩ (fun H locs hP hD hS => ?_)
      refine lv_if_eq (tgt := 38) hx hb d_Mo_pack_31 (by decide) (fun c_54 => ?_) (fun c_54 => ?_)
      · rw [if_pos c_54] at h
        exact K38 s1_20 H locs ls hP hD hS (lv_sub hl [0, 1, 2] rfl) h
      · rw [if_neg c_54] at h
        refine lv_iconst (v := 1) hx hb d_Mo_pack_34 (by decide) ?_
        refine lv_goto (tgt := 39) hx hb d_Mo_pack_35 (by decide) ?_
        exact K39 s1_20 1 H locs ls hP hD hS (lv_sub hl [0, 1, 2] rfl) h
  have K19 : ∀ (H : Heap) (locs : List Loc) (ls : Array Slot), va_P D vwCl (wMo xMo cI cZ gMo) H → va_D A (wMo xMo cI cZ gMo) → va_S A s.heap H locs → lv_has ls 11 [(0, .ref (xMo 0)), (1, .int p1), (2, .int p2)] → f_Mo_pack_J19 gMo p1 p2 = some (r, gMo1) → W p l e rm_Mo_pack_r s m args below meth c H locs 0 0 Q (F0 m 19 ls [.ref (xMo 0)]) := by
    intro  H locs ls hP hD hS hl h
    unfold f_Mo_pack_J19 at h
    refine lv_iconst (v := 0) hx hb d_Mo_pack_19 (by decide) ?_
    exact K20 0 H locs ls hP hD hS (lv_sub hl [0, 1, 2] rfl) h
  refine lv_if_lt (tgt := 19) hx hb d_Mo_pack_2 (by decide) (fun c_55 => ?_) (fun c_55 => ?_)
  · rw [if_pos c_55] at h
    exact K19  H locs ls hP hD hS (lv_sub hl [0, 1, 2] rfl) h
  · rw [if_neg c_55] at h
    refine lv_iload_n hx hb d_Mo_pack_5 rfl (lv_at hl 1 rfl) ?_
    refine lv_iconst (v := 1) hx hb d_Mo_pack_6 (by decide) ?_
    refine lv_aload_n hx hb d_Mo_pack_7 rfl (lv_at hl 0 rfl) ?_
    refine va_get (ci := 8) (v := .int (gMo 0 1)) (C := R_Mo) (T := F_Mo) (N := 31) hx hb hts i_Mo hown hK hP 0 rfl rfl 1 (by decide) (hts _ m_705) (fun _ h9 => h9) rfl d_Mo_pack_8 ?_
    refine lv_ishl hx hb d_Mo_pack_11 ?_
    refine lv_icmp_ge (tgt := 19) hx hb d_Mo_pack_12 (by decide) (fun c_56 => ?_) (fun c_56 => ?_)
    · rw [if_pos c_56] at h
      exact K19  H locs ls hP hD hS (lv_sub hl [0, 1, 2] rfl) h
    · rw [if_neg c_56] at h
      refine lv_iconst (v := 1) hx hb d_Mo_pack_15 (by decide) ?_
      refine lv_goto (tgt := 20) hx hb d_Mo_pack_16 (by decide) ?_
      exact K20 1 H locs ls hP hD hS (lv_sub hl [0, 1, 2] rfl) h
