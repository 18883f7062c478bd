abbrev rm_Mo_inside_r : Room := { frames := 1, cells := 0, slots := 0, locals := 23 }
set_option maxRecDepth 100000 in
set_option maxHeartbeats 4000000 in
theorem c_Mo_inside_r (l : Launch) (D : va_G) (cI cZ cJ : ClassId) (xMo : Nat → Nat) (sz : Nat) (gMo : St) (p1 : Int32) (r : Int32) (gMo1 : St) (h : f_Mo_inside gMo p1 = some (r, gMo1)) : MI l y_Mo_inside b_Mo_inside 2 (some .int) rm_Mo_inside_r D (TYS cI cZ cJ) [.ref (xMo 0), .int p1] (wMo xMo cI cZ gMo) sz r (wMo xMo cI cZ gMo1) := by
  refine mi_start (own := R_Mo) (by decide +kernel) rfl (Nat.le_of_ble_eq_true rfl) (fun p e s m args below meth c A ls C0 hr hlk hP hD hS hl => ?_)
  obtain ⟨Q, hQ⟩ : ∃ Q, Q = QI below D (TYS cI cZ cJ) A (wMo xMo cI cZ gMo1) r args s := ⟨_, rfl⟩
  rw [← hQ]
  obtain ⟨hx, hb, -, hown, hts, hK, hE, -⟩ := id C0
  have hl : lv_has ls 2 [(0, .ref (xMo 0)), (1, .int p1)] := hl
  obtain ⟨H, hH⟩ : ∃ H, H = s.heap := ⟨_, rfl⟩
  have hP : va_P D vwCl (wMo xMo cI cZ gMo) H := by rw [hH]; exact hP
  have hS : va_S A s.heap H [] := by rw [hH]; exact hS
  rw [show W p l e rm_Mo_inside_r s m args below meth c s.heap = W p l e rm_Mo_inside_r s m args below meth c H by rw [hH]]
  generalize ([] : List Loc) = locs at hS ⊢
  unfold f_Mo_inside at h
  refine lv_aload_n hx hb d_Mo_inside_0 rfl (lv_at hl 0 rfl) ?_
  refine lv_iload_n hx hb d_Mo_inside_1 rfl (lv_at hl 1 rfl) ?_
  have K18 : ∀ (s1_18 : Int32) (H : Heap) (locs : List Loc) (ls : Array Slot), va_P D vwCl (wMo xMo cI cZ gMo) H → va_D A (wMo xMo cI cZ gMo) → va_S A s.heap H locs → lv_has ls 2 [(0, .ref (xMo 0)), (1, .int p1)] → f_Mo_inside_J18 gMo p1 s1_18 = some (r, gMo1) → W p l e rm_Mo_inside_r s m args below meth c H locs 0 0 Q (F0 m 18 ls [.int s1_18, .ref (xMo 0)]) := by
    intro s1_18 H locs ls hP hD hS hl h
    unfold f_Mo_inside_J18 at h
    refine lv_iconst (v := 1) hx hb d_Mo_inside_18 (by decide) ?_
    refine lv_iconst (v := 1) hx hb d_Mo_inside_19 (by decide) ?_
    obtain ⟨r_1, gMo_2, hc_3, h⟩ := xv2_i h
    refine cVi (ws' := (wMo xMo cI cZ gMo_2)) (As := [.int s1_18, .int 1, .int 1]) (rest := []) C0 hP hD hS hl.1 [0, 1, 2, 3, 4, 5, 6, 7, 8, 9, 10, 11, 12, 13, 14, 15] (c_Mo_goes_r l D cI cZ cJ xMo H.size gMo s1_18 1 1 r_1 gMo_2 hc_3) k_Mo_goes m_810 rfl rfl rfl rfl rfl (rp_all rfl rfl) ⟨by decide, by decide⟩ ⟨rfl, rfl⟩ rfl (Nat.le_of_ble_eq_true rfl) d_Mo_inside_20 ⟨Nat.zero_le _, Nat.zero_le _⟩ (fun H locs hP hD hS => ?_)
    refine lv_if_eq (tgt := 35) hx hb d_Mo_inside_23 (by decide) (fun c_4 => ?_) (fun c_4 => ?_)
    · rw [if_pos c_4] at h
      refine lv_iconst (v := 0) hx hb d_Mo_inside_35 (by decide) ?_
      cases h
      rw [hQ]
      exact mi_ret C0 hr rfl hlk hP hD hS d_Mo_inside_36
    · rw [if_neg c_4] at h
      refine lv_aload_n hx hb d_Mo_inside_26 rfl (lv_at hl 0 rfl) ?_
      refine va_get (ci := 8) (v := .ref (xMo 14)) (C := R_Mo) (T := F_Mo) (N := 31) hx hb hts i_Mo hown hK hP 0 rfl rfl 22 (by decide) (hts _ m_726) (fun _ h9 => h9) rfl d_Mo_inside_27 ?_
      refine lv_iload_n hx hb d_Mo_inside_30 rfl (lv_at hl 1 rfl) ?_
      obtain ⟨hi_5, h⟩ := gb_i h
      refine va_iald hx hb hK hP 14 0 rfl rfl (inb_in hi_5) d_Mo_inside_31 ?_
      obtain ⟨x_6, ex_6, h⟩ := letb_i h
      refine lv_topn ex_6 ?_
      refine lv_goto (tgt := 36) hx hb d_Mo_inside_32 (by decide) ?_
      cases h
      rw [hQ]
      exact mi_ret C0 hr rfl hlk hP hD hS d_Mo_inside_36
  have K17 : ∀ (H : Heap) (locs : List Loc) (ls : Array Slot), va_P D vwCl (wMo xMo cI cZ gMo) H → va_D A (wMo xMo cI cZ gMo) → va_S A s.heap H locs → lv_has ls 2 [(0, .ref (xMo 0)), (1, .int p1)] → f_Mo_inside_J17 gMo p1 = some (r, gMo1) → W p l e rm_Mo_inside_r s m args below meth c H locs 0 0 Q (F0 m 17 ls [.ref (xMo 0)]) := by
    intro  H locs ls hP hD hS hl h
    unfold f_Mo_inside_J17 at h
    refine lv_iconst (v := 0) hx hb d_Mo_inside_17 (by decide) ?_
    exact K18 0 H locs ls hP hD hS (lv_sub hl [0, 1] rfl) h
  refine lv_if_lt (tgt := 17) hx hb d_Mo_inside_2 (by decide) (fun c_7 => ?_) (fun c_7 => ?_)
  · rw [if_pos c_7] at h
    exact K17  H locs ls hP hD hS (lv_sub hl [0, 1] rfl) h
  · rw [if_neg c_7] at h
    refine lv_iload_n hx hb d_Mo_inside_5 rfl (lv_at hl 1 rfl) ?_
    refine lv_aload_n hx hb d_Mo_inside_6 rfl (lv_at hl 0 rfl) ?_
    refine va_get (ci := 8) (v := .int (gMo 0 21)) (C := R_Mo) (T := F_Mo) (N := 31) hx hb hts i_Mo hown hK hP 0 rfl rfl 21 (by decide) (hts _ m_725) (fun _ h9 => h9) rfl d_Mo_inside_7 ?_
    refine lv_icmp_ge (tgt := 17) hx hb d_Mo_inside_10 (by decide) (fun c_8 => ?_) (fun c_8 => ?_)
    · rw [if_pos c_8] at h
      exact K17  H locs ls hP hD hS (lv_sub hl [0, 1] rfl) h
    · rw [if_neg c_8] at h
      refine lv_iconst (v := 1) hx hb d_Mo_inside_13 (by decide) ?_
      refine lv_goto (tgt := 18) hx hb d_Mo_inside_14 (by decide) ?_
      exact K18 1 H locs ls hP hD hS (lv_sub hl [0, 1] rfl) h
abbrev rm_Mo_steady_r : Room := { frames := 1, cells := 0, slots := 0, locals := 23 }
set_option maxRecDepth 100000 in
set_option maxHeartbeats 4000000 in
theorem c_Mo_steady_r (l : Launch) (D : va_G) (cI cZ cJ : ClassId) (xMo : Nat → Nat) (sz : Nat) (gMo : St) (p1 : Int32) (p2 : Int32) (r : Int32) (gMo1 : St) (h : f_Mo_steady gMo p1 p2 = some (r, gMo1)) : MI l y_Mo_steady b_Mo_steady 6 (some .int) rm_Mo_steady_r D (TYS cI cZ cJ) [.ref (xMo 0), .int p1, .int p2] (wMo xMo cI cZ gMo) sz r (wMo xMo cI cZ gMo1) := by
  refine mi_start (own := R_Mo) (by decide +kernel) rfl (Nat.le_of_ble_eq_true rfl) (fun p e s m args below meth c A ls C0 hr hlk hP hD hS hl => ?_)
  obtain ⟨Q, hQ⟩ : ∃ Q, Q = QI below D (TYS cI cZ cJ) A (wMo xMo cI cZ gMo1) r args s := ⟨_, rfl⟩
  rw [← hQ]
  obtain ⟨hx, hb, -, hown, hts, hK, hE, -⟩ := id C0
  have hl : lv_has ls 6 [(0, .ref (xMo 0)), (1, .int p1), (2, .int p2)] := hl
  obtain ⟨H, hH⟩ : ∃ H, H = s.heap := ⟨_, rfl⟩
  have hP : va_P D vwCl (wMo xMo cI cZ gMo) H := by rw [hH]; exact hP
  have hS : va_S A s.heap H [] := by rw [hH]; exact hS
  rw [show W p l e rm_Mo_steady_r s m args below meth c s.heap = W p l e rm_Mo_steady_r s m args below meth c H by rw [hH]]
  generalize ([] : List Loc) = locs at hS ⊢
  unfold f_Mo_steady at h
  refine lv_aload_n hx hb d_Mo_steady_0 rfl (lv_at hl 0 rfl) ?_
  refine lv_iload_n hx hb d_Mo_steady_1 rfl (lv_at hl 1 rfl) ?_
  refine lv_iload_n hx hb d_Mo_steady_2 rfl (lv_at hl 2 rfl) ?_
  have K11 : ∀ (s1_11 : Int32) (H : Heap) (locs : List Loc) (ls : Array Slot), va_P D vwCl (wMo xMo cI cZ gMo) H → va_D A (wMo xMo cI cZ gMo) → va_S A s.heap H locs → lv_has ls 6 [(0, .ref (xMo 0)), (1, .int p1), (2, .int p2)] → f_Mo_steady_J11 gMo p1 p2 s1_11 = some (r, gMo1) → W p l e rm_Mo_steady_r s m args below meth c H locs 0 0 Q (F0 m 11 ls [.int s1_11, .ref (xMo 0)]) := by
    intro s1_11 H locs ls hP hD hS hl h
    unfold f_Mo_steady_J11 at h
    refine lv_iconst (v := 1) hx hb d_Mo_steady_11 (by decide) ?_
    refine lv_iconst (v := 1) hx hb d_Mo_steady_12 (by decide) ?_
    obtain ⟨r_1, gMo_2, hc_3, h⟩ := xv2_i h
    refine cVi (ws' := (wMo xMo cI cZ gMo_2)) (As := [.int s1_11, .int 1, .int 1]) (rest := []) C0 hP hD hS hl.1 [0, 1, 2, 3, 4, 5, 6, 7, 8, 9, 10, 11, 12, 13, 14, 15] (c_Mo_goes_r l D cI cZ cJ xMo H.size gMo s1_11 1 1 r_1 gMo_2 hc_3) k_Mo_goes m_810 rfl rfl rfl rfl rfl (rp_all rfl rfl) ⟨by decide, by decide⟩ ⟨rfl, rfl⟩ rfl (Nat.le_of_ble_eq_true rfl) d_Mo_steady_13 ⟨Nat.zero_le _, Nat.zero_le _⟩ (fun H locs hP hD hS => ?_)
    refine lv_if_ne (tgt := 21) hx hb d_Mo_steady_16 (by decide) (fun c_4 => ?_) (fun c_4 => ?_)
    · rw [if_neg c_4] at h
      refine lv_iconst (v := 0) hx hb d_Mo_steady_21 (by decide) ?_
      refine lv_istore_n (lv' := [(3, .int 0), (0, .ref (xMo 0)), (1, .int p1), (2, .int p2)]) hx hb d_Mo_steady_22 rfl hl (by decide) rfl (fun ls hl => ?_)
      refine lv_iconst (v := 0) hx hb d_Mo_steady_23 (by decide) ?_
      refine lv_istore (lv' := [(4, .int 0), (3, .int 0), (0, .ref (xMo 0)), (1, .int p1), (2, .int p2)]) hx hb d_Mo_steady_24 hl (by decide) rfl (fun ls hl => ?_)
      refine lv_iconst (v := 0) hx hb d_Mo_steady_26 (by decide) ?_
      refine lv_istore (lv' := [(5, .int 0), (4, .int 0), (3, .int 0), (0, .ref (xMo 0)), (1, .int p1), (2, .int p2)]) hx hb d_Mo_steady_27 hl (by decide) rfl (fun ls hl => ?_)
      have K82 : ∀ (v3_82 : Int32) (v4_82 : Int32) (v5_82 : Int32) (gMo_82 : St) (H : Heap) (locs : List Loc) (ls : Array Slot), va_P D vwCl (wMo xMo cI cZ gMo_82) H → va_D A (wMo xMo cI cZ gMo_82) → va_S A s.heap H locs → lv_has ls 6 [(0, .ref (xMo 0)), (1, .int p1), (2, .int p2), (3, .int v3_82), (4, .int v4_82), (5, .int v5_82)] → f_Mo_steady_X82 v3_82 v4_82 v5_82 gMo_82 = some (r, gMo1) → W p l e rm_Mo_steady_r s m args below meth c H locs 0 0 Q (F0 m 82 ls []) := by
        intro v3_82 v4_82 v5_82 gMo_82 H locs ls hP hD hS hl h
        unfold f_Mo_steady_X82 at h
        refine lv_iload_n hx hb d_Mo_steady_82 rfl (lv_at hl 3 rfl) ?_
        cases h
        rw [hQ]
        exact mi_ret C0 hr rfl hlk hP hD hS d_Mo_steady_83
      have K29 : ∀ (n : Nat) (v3_29 : Int32) (v4_29 : Int32) (v5_29 : Int32) (gMo_29 : St) (H : Heap) (locs : List Loc) (ls : Array Slot), va_P D vwCl (wMo xMo cI cZ gMo_29) H → va_D A (wMo xMo cI cZ gMo_29) → va_S A s.heap H locs → lv_has ls 6 [(0, .ref (xMo 0)), (1, .int p1), (2, .int p2), (3, .int v3_29), (4, .int v4_29), (5, .int v5_29)] → it4 (f_Mo_steady_L29 p1 p2) n v3_29 v4_29 v5_29 gMo_29 = some (r, gMo1) → W p l e rm_Mo_steady_r s m args below meth c H locs 0 0 Q (F0 m 29 ls []) := by
        intro n
        induction n with
        | zero => intro v3_29 v4_29 v5_29 gMo_29 H locs ls hP hD hS hl h; exact (it4_0 h).elim
        | succ n ih =>
          intro v3_29 v4_29 v5_29 gMo_29 H locs ls hP hD hS hl h
          rw [it4_s, f_Mo_steady_L29] at h
          generalize it4 (f_Mo_steady_L29 p1 p2) n = kc_29 at h ih
          refine lv_iload hx hb d_Mo_steady_29 (lv_at hl 5 rfl) ?_
          refine lv_aload_n hx hb d_Mo_steady_31 rfl (lv_at hl 0 rfl) ?_
          refine va_get (ci := 8) (v := .int (gMo_29 0 21)) (C := R_Mo) (T := F_Mo) (N := 31) hx hb hts i_Mo hown hK hP 0 rfl rfl 21 (by decide) (hts _ m_725) (fun _ h9 => h9) rfl d_Mo_steady_32 ?_
          refine lv_icmp_ge (tgt := 82) hx hb d_Mo_steady_35 (by decide) (fun c_5 => ?_) (fun c_5 => ?_)
          · rw [if_pos c_5] at h
            exact K82 v3_29 v4_29 v5_29 gMo_29 H locs ls hP hD hS (lv_sub hl [0, 1, 2, 3, 4, 5] rfl) h
          · rw [if_neg c_5] at h
            refine lv_aload_n hx hb d_Mo_steady_38 rfl (lv_at hl 0 rfl) ?_
            refine va_get (ci := 8) (v := .ref (xMo 14)) (C := R_Mo) (T := F_Mo) (N := 31) hx hb hts i_Mo hown hK hP 0 rfl rfl 22 (by decide) (hts _ m_726) (fun _ h9 => h9) rfl d_Mo_steady_39 ?_
            refine lv_iload hx hb d_Mo_steady_42 (lv_at hl 5 rfl) ?_
            obtain ⟨hi_6, h⟩ := gb_i h
            refine va_iald hx hb hK hP 14 0 rfl rfl (inb_in hi_6) d_Mo_steady_44 ?_
            obtain ⟨x_7, ex_7, h⟩ := letb_i h
            refine lv_topn ex_7 ?_
            refine lv_iload_n hx hb d_Mo_steady_45 rfl (lv_at hl 1 rfl) ?_
            refine lv_iload_n hx hb d_Mo_steady_46 rfl (lv_at hl 2 rfl) ?_
            obtain ⟨r_8, hc_9, h⟩ := xv1_i h
            refine cSi (ws' := (wMo xMo cI cZ gMo_29)) (As := [.int x_7, .int p1, .int p2]) (rest := []) C0 hP hD hS hl.1 [] (c_Mo_within_r l D cI cZ cJ  H.size x_7 p1 p2 r_8 hc_9) k_Mo_within m_806 rfl rfl rfl (rp_same rfl) ⟨by decide, by decide⟩ ⟨rfl, rfl⟩ rfl (Nat.le_of_ble_eq_true rfl) d_Mo_steady_47 ⟨Nat.zero_le _, Nat.zero_le _⟩ (fun H locs hP hD hS => ?_)
            have K61 : ∀ (s0_61 : Int32) (v3_61 : Int32) (v4_61 : Int32) (v5_61 : Int32) (gMo_61 : St) (H : Heap) (locs : List Loc) (ls : Array Slot), va_P D vwCl (wMo xMo cI cZ gMo_61) H → va_D A (wMo xMo cI cZ gMo_61) → va_S A s.heap H locs → lv_has ls 6 [(0, .ref (xMo 0)), (1, .int p1), (2, .int p2), (3, .int v3_61), (4, .int v4_61), (5, .int v5_61)] → f_Mo_steady_J61 kc_29 s0_61 v3_61 v4_61 v5_61 gMo_61 = some (r, gMo1) → W p l e rm_Mo_steady_r s m args below meth c H locs 0 0 Q (F0 m 61 ls [.int s0_61]) := by
              intro s0_61 v3_61 v4_61 v5_61 gMo_61 H locs ls hP hD hS hl h
              unfold f_Mo_steady_J61 at h
              refine lv_istore (lv' := [(4, .int s0_61), (0, .ref (xMo 0)), (1, .int p1), (2, .int p2), (3, .int v3_61), (5, .int v5_61)]) hx hb d_Mo_steady_61 hl (by decide) rfl (fun ls hl => ?_)
              refine lv_iload hx hb d_Mo_steady_63 (lv_at hl 0 rfl) ?_
              refine lv_iload_n hx hb d_Mo_steady_65 rfl (lv_at hl 4 rfl) ?_
              have K75 : ∀ (s0_75 : Int32) (v3_75 : Int32) (v4_75 : Int32) (v5_75 : Int32) (gMo_75 : St) (H : Heap) (locs : List Loc) (ls : Array Slot), va_P D vwCl (wMo xMo cI cZ gMo_75) H → va_D A (wMo xMo cI cZ gMo_75) → va_S A s.heap H locs → lv_has ls 6 [(0, .ref (xMo 0)), (1, .int p1), (2, .int p2), (3, .int v3_75), (4, .int v4_75), (5, .int v5_75)] → f_Mo_steady_J75 kc_29 s0_75 v3_75 v4_75 v5_75 gMo_75 = some (r, gMo1) → W p l e rm_Mo_steady_r s m args below meth c H locs 0 0 Q (F0 m 75 ls [.int s0_75]) := by
                intro s0_75 v3_75 v4_75 v5_75 gMo_75 H locs ls hP hD hS hl h
                unfold f_Mo_steady_J75 at h
                refine lv_istore_n (lv' := [(3, .int s0_75), (0, .ref (xMo 0)), (1, .int p1), (2, .int p2), (4, .int v4_75), (5, .int v5_75)]) hx hb d_Mo_steady_75 rfl hl (by decide) rfl (fun ls hl => ?_)
                obtain ⟨x_10, ex_10, h⟩ := letb_i h
                refine lv_iinc (v := x_10) (lv' := [(5, .int x_10), (3, .int s0_75), (0, .ref (xMo 0)), (1, .int p1), (2, .int p2), (4, .int v4_75)]) hx hb d_Mo_steady_76 hl (k := 5) rfl (by rw [ex_10]; rfl) (by decide) rfl (fun ls hl => ?_)
                refine lv_goto (tgt := 29) hx hb d_Mo_steady_79 (by decide) ?_
                exact ih s0_75 v4_75 x_10 gMo_75 H locs ls hP hD hS (lv_sub hl [2, 3, 4, 1, 5, 0] rfl) h
              refine lv_icmp_le (tgt := 74) hx hb d_Mo_steady_66 (by decide) (fun c_11 => ?_) (fun c_11 => ?_)
              · rw [if_pos c_11] at h
                refine lv_iload_n hx hb d_Mo_steady_74 rfl (lv_at hl 4 rfl) ?_
                exact K75 v3_61 v3_61 s0_61 v5_61 gMo_61 H locs ls hP hD hS (lv_sub hl [1, 2, 3, 4, 0, 5] rfl) h
              · rw [if_neg c_11] at h
                refine lv_iload hx hb d_Mo_steady_69 (lv_at hl 0 rfl) ?_
                refine lv_goto (tgt := 75) hx hb d_Mo_steady_71 (by decide) ?_
                exact K75 s0_61 v3_61 s0_61 v5_61 gMo_61 H locs ls hP hD hS (lv_sub hl [1, 2, 3, 4, 0, 5] rfl) h
            refine lv_if_eq (tgt := 60) hx hb d_Mo_steady_50 (by decide) (fun c_12 => ?_) (fun c_12 => ?_)
            · rw [if_pos c_12] at h
              refine lv_iconst (v := 0) hx hb d_Mo_steady_60 (by decide) ?_
              exact K61 0 v3_29 v4_29 v5_29 gMo_29 H locs ls hP hD hS (lv_sub hl [0, 1, 2, 3, 4, 5] rfl) h
            · rw [if_neg c_12] at h
              refine lv_iload hx hb d_Mo_steady_53 (lv_at hl 4 rfl) ?_
              refine lv_iconst (v := 1) hx hb d_Mo_steady_55 (by decide) ?_
              refine lv_iadd hx hb d_Mo_steady_56 ?_
              refine lv_goto (tgt := 61) hx hb d_Mo_steady_57 (by decide) ?_
              exact K61 (v4_29 + 1) v3_29 v4_29 v5_29 gMo_29 H locs ls hP hD hS (lv_sub hl [0, 1, 2, 3, 4, 5] rfl) h
      exact K29 FU 0 0 0 gMo_2 H locs ls hP hD hS (lv_sub hl [3, 4, 5, 2, 1, 0] rfl) h
    · rw [if_pos c_4] at h
      refine lv_iconst (v := 0) hx hb d_Mo_steady_19 (by decide) ?_
      cases h
      rw [hQ]
      exact mi_ret C0 hr rfl hlk hP hD hS d_Mo_steady_20
  refine lv_icmp_gt (tgt := 10) hx hb d_Mo_steady_3 (by decide) (fun c_13 => ?_) (fun c_13 => ?_)
  · rw [if_pos c_13] at h
    refine lv_iconst (v := 0) hx hb d_Mo_steady_10 (by decide) ?_
    exact K11 0 H locs ls hP hD hS (lv_sub hl [0, 1, 2] rfl) h
  · rw [if_neg c_13] at h
    refine lv_iconst (v := 1) hx hb d_Mo_steady_6 (by decide) ?_
    refine lv_goto (tgt := 11) hx hb d_Mo_steady_7 (by decide) ?_
    exact K11 1 H locs ls hP hD hS (lv_sub hl [0, 1, 2] rfl) h
abbrev rm_Mo_limit_r : Room := { frames := 1, cells := 0, slots := 0, locals := 23 }
set_option maxRecDepth 100000 in
set_option maxHeartbeats 4000000 in
theorem c_Mo_limit_r (l : Launch) (D : va_G) (cI cZ cJ : ClassId) (xMo : Nat → Nat) (sz : Nat) (gMo : St) (p1 : Int32) (p2 : Int32) (gMo1 : St) (h : f_Mo_limit gMo p1 p2 = some gMo1) : MV l y_Mo_limit b_Mo_limit 3 (Option.none : Option Jvm.ClassFile.FieldType) rm_Mo_limit_r D (TYS cI cZ cJ) [.ref (xMo 0), .int p1, .int p2] (wMo xMo cI cZ gMo) sz (wMo xMo cI cZ gMo1) := by
  refine mv_start (own := R_Mo) (by decide +kernel) rfl (Nat.le_of_ble_eq_true rfl) (fun p e s m args below meth c A ls C0 hr hlk hP hD hS hl => ?_)
  obtain ⟨Q, hQ⟩ : ∃ Q, Q = QV below D (TYS cI cZ cJ) A (wMo xMo cI cZ gMo1) args s := ⟨_, rfl⟩
  rw [← hQ]
  obtain ⟨hx, hb, -, hown, hts, hK, hE, -⟩ := id C0
  have hl : lv_has ls 3 [(0, .ref (xMo 0)), (1, .int p1), (2, .int p2)] := hl
  obtain ⟨H, hH⟩ : ∃ H, H = s.heap := ⟨_, rfl⟩
  have hP : va_P D vwCl (wMo xMo cI cZ gMo) H := by rw [hH]; exact hP
  have hS : va_S A s.heap H [] := by rw [hH]; exact hS
  rw [show W p l e rm_Mo_limit_r s m args below meth c s.heap = W p l e rm_Mo_limit_r s m args below meth c H by rw [hH]]
  generalize ([] : List Loc) = locs at hS ⊢
  unfold f_Mo_limit at h
  refine lv_aload_n hx hb d_Mo_limit_0 rfl (lv_at hl 0 rfl) ?_
  refine lv_iload_n hx hb d_Mo_limit_1 rfl (lv_at hl 1 rfl) ?_
  refine lv_iconst (v := 1) hx hb d_Mo_limit_2 (by decide) ?_
  refine lv_sipush (v := 10000) hx hb d_Mo_limit_3 (by decide) ?_
  obtain ⟨r_1, hc_2, h⟩ := xv1_i h
  refine cSi (ws' := (wMo xMo cI cZ gMo)) (As := [.int p1, .int 1, .int 10000]) (rest := [.ref (xMo 0)]) C0 hP hD hS hl.1 [] (c_Mo_within_r l D cI cZ cJ  H.size p1 1 10000 r_1 hc_2) k_Mo_within m_806 rfl rfl rfl (rp_same rfl) ⟨by decide, by decide⟩ ⟨rfl, rfl⟩ rfl (Nat.le_of_ble_eq_true rfl) d_Mo_limit_6 ⟨Nat.zero_le _, Nat.zero_le _⟩ (fun H locs hP hD hS => ?_)
  have K28 : ∀ (s1_28 : Int32) (H : Heap) (locs : List Loc) (ls : Array Slot), va_P D vwCl (wMo xMo cI cZ gMo) H → va_D A (wMo xMo cI cZ gMo) → va_S A s.heap H locs → lv_has ls 3 [(0, .ref (xMo 0)), (1, .int p1), (2, .int p2)] → f_Mo_limit_J28 gMo p1 p2 s1_28 = some gMo1 → W p l e rm_Mo_limit_r s m args below meth c H locs 0 0 Q (F0 m 28 ls [.int s1_28, .ref (xMo 0)]) := by
    intro s1_28 H locs ls hP hD hS hl h
    unfold f_Mo_limit_J28 at h
    refine lv_iconst (v := 1) hx hb d_Mo_limit_28 (by decide) ?_
    refine lv_iconst (v := 1) hx hb d_Mo_limit_29 (by decide) ?_
    obtain ⟨r_3, gMo_4, hc_5, h⟩ := xv2_i h
    refine cVi (ws' := (wMo xMo cI cZ gMo_4)) (As := [.int s1_28, .int 1, .int 1]) (rest := []) C0 hP hD hS hl.1 [0, 1, 2, 3, 4, 5, 6, 7, 8, 9, 10, 11, 12, 13, 14, 15] (c_Mo_goes_r l D cI cZ cJ xMo H.size gMo s1_28 1 1 r_3 gMo_4 hc_5) k_Mo_goes m_810 rfl rfl rfl rfl rfl (rp_all rfl rfl) ⟨by decide, by decide⟩ ⟨rfl, rfl⟩ rfl (Nat.le_of_ble_eq_true rfl) d_Mo_limit_30 ⟨Nat.zero_le _, Nat.zero_le _⟩ (fun H locs hP hD hS => ?_)
    refine lv_if_eq (tgt := 51) hx hb d_Mo_limit_33 (by decide) (fun c_6 => ?_) (fun c_6 => ?_)
    · rw [if_pos c_6] at h
      cases h
      rw [hQ]
      exact mv_ret C0 hr hlk hP hD hS d_Mo_limit_51
    · rw [if_neg c_6] at h
      refine lv_aload_n hx hb d_Mo_limit_36 rfl (lv_at hl 0 rfl) ?_
      refine lv_iload_n hx hb d_Mo_limit_37 rfl (lv_at hl 1 rfl) ?_
      refine va_put (ci := 8) (v := .int p1) (ty := .int) (C := R_Mo) (T := F_Mo) (N := 31) hx hb hts i_Mo t_Mo o_Mo n_Mo hown hK hP hD hS 0 rfl rfl 24 (by decide) (hts _ m_728) (fun _ h9 => h9) rfl (by decide +kernel) rfl rfl (Nat.le_of_ble_eq_true rfl) d_Mo_limit_38 (fun H locs hP hD hS => ?_)
      obtain ⟨gMo_7, egMo_7, h⟩ := letb_i h
      have hP : va_P D vwCl (wMo xMo cI cZ gMo_7) H := by rw [egMo_7, u_Mo_0_24]; exact hP
      have hD : va_D A (wMo xMo cI cZ gMo_7) := by rw [egMo_7, u_Mo_0_24]; exact hD
      refine lv_aload_n hx hb d_Mo_limit_41 rfl (lv_at hl 0 rfl) ?_
      refine lv_iload_n hx hb d_Mo_limit_42 rfl (lv_at hl 2 rfl) ?_
      refine va_put (ci := 8) (v := .int p2) (ty := .int) (C := R_Mo) (T := F_Mo) (N := 31) hx hb hts i_Mo t_Mo o_Mo n_Mo hown hK hP hD hS 0 rfl rfl 25 (by decide) (hts _ m_729) (fun _ h9 => h9) rfl (by decide +kernel) rfl rfl (Nat.le_of_ble_eq_true rfl) d_Mo_limit_43 (fun H locs hP hD hS => ?_)
      obtain ⟨gMo_8, egMo_8, h⟩ := letb_i h
      have hP : va_P D vwCl (wMo xMo cI cZ gMo_8) H := by rw [egMo_8, u_Mo_0_25]; exact hP
      have hD : va_D A (wMo xMo cI cZ gMo_8) := by rw [egMo_8, u_Mo_0_25]; exact hD
      refine lv_aload_n hx hb d_Mo_limit_46 rfl (lv_at hl 0 rfl) ?_
      refine lv_iconst (v := 1) hx hb d_Mo_limit_47 (by decide) ?_
      refine va_put (ci := 8) (v := .int 1) (ty := .boolean) (C := R_Mo) (T := F_Mo) (N := 31) hx hb hts i_Mo t_Mo o_Mo n_Mo hown hK hP hD hS 0 rfl rfl 26 (by decide) (hts _ m_730) (fun _ h9 => h9) rfl (by decide +kernel) rfl rfl (Nat.le_of_ble_eq_true rfl) d_Mo_limit_48 (fun H locs hP hD hS => ?_)
      obtain ⟨gMo_9, egMo_9, h⟩ := letb_i h
      have hP : va_P D vwCl (wMo xMo cI cZ gMo_9) H := by rw [egMo_9, u_Mo_0_26]; exact hP
      have hD : va_D A (wMo xMo cI cZ gMo_9) := by rw [egMo_9, u_Mo_0_26]; exact hD
      cases h
      rw [hQ]
      exact mv_ret C0 hr hlk hP hD hS d_Mo_limit_51
  have K27 : ∀ (H : Heap) (locs : List Loc) (ls : Array Slot), va_P D vwCl (wMo xMo cI cZ gMo) H → va_D A (wMo xMo cI cZ gMo) → va_S A s.heap H locs → lv_has ls 3 [(0, .ref (xMo 0)), (1, .int p1), (2, .int p2)] → f_Mo_limit_J27 gMo p1 p2 = some gMo1 → W p l e rm_Mo_limit_r s m args below meth c H locs 0 0 Q (F0 m 27 ls [.ref (xMo 0)]) := by
    intro  H locs ls hP hD hS hl h
    unfold f_Mo_limit_J27 at h
    refine lv_iconst (v := 0) hx hb d_Mo_limit_27 (by decide) ?_
    exact K28 0 H locs ls hP hD hS (lv_sub hl [0, 1, 2] rfl) h
  refine lv_if_eq (tgt := 27) hx hb d_Mo_limit_9 (by decide) (fun c_10 => ?_) (fun c_10 => ?_)
  · rw [if_pos c_10] at h
    exact K27  H locs ls hP hD hS (lv_sub hl [0, 1, 2] rfl) h
  · rw [if_neg c_10] at h
    refine lv_iload_n hx hb d_Mo_limit_12 rfl (lv_at hl 2 rfl) ?_
    refine lv_iconst (v := 1) hx hb d_Mo_limit_13 (by decide) ?_
    refine lv_sipush (v := 10000) hx hb d_Mo_limit_14 (by decide) ?_
    obtain ⟨r_11, hc_12, h⟩ := xv1_i h
    refine cSi (ws' := (wMo xMo cI cZ gMo)) (As := [.int p2, .int 1, .int 10000]) (rest := [.ref (xMo 0)]) C0 hP hD hS hl.1 [] (c_Mo_within_r l D cI cZ cJ  H.size p2 1 10000 r_11 hc_12) k_Mo_within m_806 rfl rfl rfl (rp_same rfl) ⟨by decide, by decide⟩ ⟨rfl, rfl⟩ rfl (Nat.le_of_ble_eq_true rfl) d_Mo_limit_17 ⟨Nat.zero_le _, Nat.zero_le _⟩ (fun H locs hP hD hS => ?_)
    refine lv_if_eq (tgt := 27) hx hb d_Mo_limit_20 (by decide) (fun c_13 => ?_) (fun c_13 => ?_)
    · rw [if_pos c_13] at h
      exact K27  H locs ls hP hD hS (lv_sub hl [0, 1, 2] rfl) h
    · rw [if_neg c_13] at h
      refine lv_iconst (v := 1) hx hb d_Mo_limit_23 (by decide) ?_
      refine lv_goto (tgt := 28) hx hb d_Mo_limit_24 (by decide) ?_
      exact K28 1 H locs ls hP hD hS (lv_sub hl [0, 1, 2] rfl) h
abbrev rm_Mo_shock_r : Room := { frames := 1, cells := 0, slots := 0, locals := 23 }
set_option maxRecDepth 100000 in
set_option maxHeartbeats 4000000 in
theorem c_Mo_shock_r (l : Launch) (D : va_G) (cI cZ cJ : ClassId) (xMo : Nat → Nat) (sz : Nat) (gMo : St) (p1 : Int32) (p2 : Int32) (r : Int32) (gMo1 : St) (h : f_Mo_shock gMo p1 p2 = some (r, gMo1)) : MI l y_Mo_shock b_Mo_shock 4 (some .boolean) rm_Mo_shock_r D (TYS cI cZ cJ) [.ref (xMo 0), .int p1, .int p2] (wMo xMo cI cZ gMo) sz r (wMo xMo cI cZ gMo1) := by
  refine mi_start (own := R_Mo) (by decide +kernel) rfl (Nat.le_of_ble_eq_true rfl) (fun p e s m args below meth c A ls C0 hr hlk hP hD hS hl => ?_)
  obtain ⟨Q, hQ⟩ : ∃ Q, Q = QI below D (TYS cI cZ cJ) A (wMo xMo cI cZ gMo1) r args s := ⟨_, rfl⟩
  rw [← hQ]
  obtain ⟨hx, hb, -, hown, hts, hK, hE, -⟩ := id C0
  have hl : lv_has ls 4 [(0, .ref (xMo 0)), (1, .int p1), (2, .int p2)] := hl
  obtain ⟨H, hH⟩ : ∃ H, H = s.heap := ⟨_, rfl⟩
  have hP : va_P D vwCl (wMo xMo cI cZ gMo) H := by rw [hH]; exact hP
  have hS : va_S A s.heap H [] := by rw [hH]; exact hS
  rw [show W p l e rm_Mo_shock_r s m args below meth c s.heap = W p l e rm_Mo_shock_r s m args below meth c H by rw [hH]]
  generalize ([] : List Loc) = locs at hS ⊢
  unfold f_Mo_shock at h
  refine lv_aload_n hx hb d_Mo_shock_0 rfl (lv_at hl 0 rfl) ?_
  refine lv_iload_n hx hb d_Mo_shock_1 rfl (lv_at hl 1 rfl) ?_
  refine lv_iconst (v := 0) hx hb d_Mo_shock_2 (by decide) ?_
  refine lv_sipush (v := 10000) hx hb d_Mo_shock_3 (by decide) ?_
  obtain ⟨r_1, hc_2, h⟩ := xv1_i h
  refine cSi (ws' := (wMo xMo cI cZ gMo)) (As := [.int p1, .int 0, .int 10000]) (rest := [.ref (xMo 0)]) C0 hP hD hS hl.1 [] (c_Mo_within_r l D cI cZ cJ  H.size p1 0 10000 r_1 hc_2) k_Mo_within m_806 rfl rfl rfl (rp_same rfl) ⟨by decide, by decide⟩ ⟨rfl, rfl⟩ rfl (Nat.le_of_ble_eq_true rfl) d_Mo_shock_6 ⟨Nat.zero_le _, Nat.zero_le _⟩ (fun H locs hP hD hS => ?_)
  have K28 : ∀ (s1_28 : Int32) (H : Heap) (locs : List Loc) (ls : Array Slot), va_P D vwCl (wMo xMo cI cZ gMo) H → va_D A (wMo xMo cI cZ gMo) → va_S A s.heap H locs → lv_has ls 4 [(0, .ref (xMo 0)), (1, .int p1), (2, .int p2)] → f_Mo_shock_J28 gMo p1 p2 s1_28 = some (r, gMo1) → W p l e rm_Mo_shock_r s m args below meth c H locs 0 0 Q (F0 m 28 ls [.int s1_28, .ref (xMo 0)]) := by
    intro s1_28 H locs ls hP hD hS hl h
    unfold f_Mo_shock_J28 at h
    refine lv_iconst (v := 1) hx hb d_Mo_shock_28 (by decide) ?_
    refine lv_iconst (v := 1) hx hb d_Mo_shock_29 (by decide) ?_
    obtain ⟨r_3, gMo_4, hc_5, h⟩ := xv2_i h
    refine cVi (ws' := (wMo xMo cI cZ gMo_4)) (As := [.int s1_28, .int 1, .int 1]) (rest := []) C0 hP hD hS hl.1 [0, 1, 2, 3, 4, 5, 6, 7, 8, 9, 10, 11, 12, 13, 14, 15] (c_Mo_goes_r l D cI cZ cJ xMo H.size gMo s1_28 1 1 r_3 gMo_4 hc_5) k_Mo_goes m_810 rfl rfl rfl rfl rfl (rp_all rfl rfl) ⟨by decide, by decide⟩ ⟨rfl, rfl⟩ rfl (Nat.le_of_ble_eq_true rfl) d_Mo_shock_30 ⟨Nat.zero_le _, Nat.zero_le _⟩ (fun H locs hP hD hS => ?_)
    refine lv_if_ne (tgt := 38) hx hb d_Mo_shock_33 (by decide) (fun c_6 => ?_) (fun c_6 => ?_)
    · rw [if_neg c_6] at h
      refine lv_aload_n hx hb d_Mo_shock_38 rfl (lv_at hl 0 rfl) ?_
      refine va_get (ci := 8) (v := .int (gMo_4 0 26)) (C := R_Mo) (T := F_Mo) (N := 31) hx hb hts i_Mo hown hK hP 0 rfl rfl 26 (by decide) (hts _ m_730) (fun _ h9 => h9) rfl d_Mo_shock_39 ?_
      have K76 : ∀ (s0_76 : Int32) (gMo_76 : St) (H : Heap) (locs : List Loc) (ls : Array Slot), va_P D vwCl (wMo xMo cI cZ gMo_76) H → va_D A (wMo xMo cI cZ gMo_76) → va_S A s.heap H locs → lv_has ls 4 [(0, .ref (xMo 0)), (1, .int p1), (2, .int p2)] → f_Mo_shock_J76 s0_76 gMo_76 = some (r, gMo1) → W p l e rm_Mo_shock_r s m args below meth c H locs 0 0 Q (F0 m 76 ls [.int s0_76]) := by
        intro s0_76 gMo_76 H locs ls hP hD hS hl h
        unfold f_Mo_shock_J76 at h
        refine lv_istore_n (lv' := [(3, .int s0_76), (0, .ref (xMo 0)), (1, .int p1), (2, .int p2)]) hx hb d_Mo_shock_76 rfl hl (by decide) rfl (fun ls hl => ?_)
        refine lv_aload_n hx hb d_Mo_shock_77 rfl (lv_at hl 1 rfl) ?_
        refine lv_dup hx hb d_Mo_shock_78 rfl ?_
        refine va_get (ci := 8) (v := .int (gMo_76 0 27)) (C := R_Mo) (T := F_Mo) (N := 31) hx hb hts i_Mo hown hK hP 0 rfl rfl 27 (by decide) (hts _ m_731) (fun _ h9 => h9) rfl d_Mo_shock_79 ?_
        refine lv_iconst (v := 1) hx hb d_Mo_shock_82 (by decide) ?_
        refine lv_iadd hx hb d_Mo_shock_83 ?_
        refine va_put (ci := 8) (v := .int ((gMo_76 0 27) + 1)) (ty := .int) (C := R_Mo) (T := F_Mo) (N := 31) hx hb hts i_Mo t_Mo o_Mo n_Mo hown hK hP hD hS 0 rfl rfl 27 (by decide) (hts _ m_731) (fun _ h9 => h9) rfl (by decide +kernel) rfl rfl (Nat.le_of_ble_eq_true rfl) d_Mo_shock_84 (fun H locs hP hD hS => ?_)
        obtain ⟨gMo_7, egMo_7, h⟩ := letb_i h
        have hP : va_P D vwCl (wMo xMo cI cZ gMo_7) H := by rw [egMo_7, u_Mo_0_27]; exact hP
        have hD : va_D A (wMo xMo cI cZ gMo_7) := by rw [egMo_7, u_Mo_0_27]; exact hD
        refine lv_aload_n hx hb d_Mo_shock_87 rfl (lv_at hl 1 rfl) ?_
        refine lv_iload_n hx hb d_Mo_shock_88 rfl (lv_at hl 0 rfl) ?_
        refine lv_if_eq (tgt := 101) hx hb d_Mo_shock_89 (by decide) (fun c_8 => ?_) (fun c_8 => ?_)
        · rw [if_pos c_8] at h
          refine lv_aload_n hx hb d_Mo_shock_101 rfl (lv_at hl 1 rfl) ?_
          refine va_get (ci := 8) (v := .int (gMo_7 0 28)) (C := R_Mo) (T := F_Mo) (N := 31) hx hb hts i_Mo hown hK hP 0 rfl rfl 28 (by decide) (hts _ m_732) (fun _ h9 => h9) rfl d_Mo_shock_102 ?_
          refine va_put (ci := 8) (v := .int (gMo_7 0 28)) (ty := .int) (C := R_Mo) (T := F_Mo) (N := 31) hx hb hts i_Mo t_Mo o_Mo n_Mo hown hK hP hD hS 0 rfl rfl 28 (by decide) (hts _ m_732) (fun _ h9 => h9) rfl (by decide +kernel) rfl rfl (Nat.le_of_ble_eq_true rfl) d_Mo_shock_105 (fun H locs hP hD hS => ?_)
          obtain ⟨gMo_9, egMo_9, h⟩ := letb_i h
          have hP : va_P D vwCl (wMo xMo cI cZ gMo_9) H := by rw [egMo_9, u_Mo_0_28]; exact hP
          have hD : va_D A (wMo xMo cI cZ gMo_9) := by rw [egMo_9, u_Mo_0_28]; exact hD
          refine lv_iload_n hx hb d_Mo_shock_108 rfl (lv_at hl 0 rfl) ?_
          obtain ⟨hz_10, h⟩ := gb_i h
          cases h
          rw [hQ]
          exact mi_ret C0 hr (isb_n hz_10) hlk hP hD hS d_Mo_shock_109
        · rw [if_neg c_8] at h
          refine lv_aload_n hx hb d_Mo_shock_92 rfl (lv_at hl 1 rfl) ?_
          refine va_get (ci := 8) (v := .int (gMo_7 0 28)) (C := R_Mo) (T := F_Mo) (N := 31) hx hb hts i_Mo hown hK hP 0 rfl rfl 28 (by decide) (hts _ m_732) (fun _ h9 => h9) rfl d_Mo_shock_93 ?_
          refine lv_iconst (v := 1) hx hb d_Mo_shock_96 (by decide) ?_
          refine lv_iadd hx hb d_Mo_shock_97 ?_
          refine lv_goto (tgt := 105) hx hb d_Mo_shock_98 (by decide) ?_
          refine va_put (ci := 8) (v := .int ((gMo_7 0 28) + 1)) (ty := .int) (C := R_Mo) (T := F_Mo) (N := 31) hx hb hts i_Mo t_Mo o_Mo n_Mo hown hK hP hD hS 0 rfl rfl 28 (by decide) (hts _ m_732) (fun _ h9 => h9) rfl (by decide +kernel) rfl rfl (Nat.le_of_ble_eq_true rfl) d_Mo_shock_105 (fun H locs hP hD hS => ?_)
          obtain ⟨gMo_11, egMo_11, h⟩ := letb_i h
          have hP : va_P D vwCl (wMo xMo cI cZ gMo_11) H := by rw [egMo_11, u_Mo_0_28]; exact hP
          have hD : va_D A (wMo xMo cI cZ gMo_11) := by rw [egMo_11, u_Mo_0_28]; exact hD
          refine lv_iload_n hx hb d_Mo_shock_108 rfl (lv_at hl 0 rfl) ?_
          obtain ⟨hz_12, h⟩ := gb_i h
          cases h
          rw [hQ]
          exact mi_ret C0 hr (isb_n hz_12) hlk hP hD hS d_Mo_shock_109
      have K75 : ∀ (gMo_75 : St) (H : Heap) (locs : List Loc) (ls : Array Slot), va_P D vwCl (wMo xMo cI cZ gMo_75) H → va_D A (wMo xMo cI cZ gMo_75) → va_S A s.heap H locs → lv_has ls 4 [(0, .ref (xMo 0)), (1, .int p1), (2, .int p2)] → f_Mo_shock_J75 gMo_75 = some (r, gMo1) → W p l e rm_Mo_shock_r s m args below meth c H locs 0 0 Q (F0 m 75 ls []) := by
        intro gMo_75 H locs ls hP hD hS hl h
        unfold f_Mo_shock_J75 at h
        refine lv_iconst (v := 0) hx hb d_Mo_shock_75 (by decide) ?_
        exact K76 0 gMo_75 H locs ls hP hD hS (lv_sub hl [0, 1, 2] rfl) h
      refine lv_if_eq (tgt := 75) hx hb d_Mo_shock_42 (by decide) (fun c_13 => ?_) (fun c_13 => ?_)
      · rw [if_pos c_13] at h
        exact K75 gMo_4 H locs ls hP hD hS (lv_sub hl [0, 1, 2] rfl) h
      · rw [if_neg c_13] at h
        refine lv_iload_n hx hb d_Mo_shock_45 rfl (lv_at hl 1 rfl) ?_
        refine lv_aload_n hx hb d_Mo_shock_46 rfl (lv_at hl 0 rfl) ?_
        refine va_get (ci := 8) (v := .int (gMo_4 0 24)) (C := R_Mo) (T := F_Mo) (N := 31) hx hb hts i_Mo hown hK hP 0 rfl rfl 24 (by decide) (hts _ m_728) (fun _ h9 => h9) rfl d_Mo_shock_47 ?_
        have K71 : ∀ (gMo_71 : St) (H : Heap) (locs : List Loc) (ls : Array Slot), va_P D vwCl (wMo xMo cI cZ gMo_71) H → va_D A (wMo xMo cI cZ gMo_71) → va_S A s.heap H locs → lv_has ls 4 [(0, .ref (xMo 0)), (1, .int p1), (2, .int p2)] → f_Mo_shock_J71 gMo_71 = some (r, gMo1) → W p l e rm_Mo_shock_r s m args below meth c H locs 0 0 Q (F0 m 71 ls []) := by
          intro gMo_71 H locs ls hP hD hS hl h
          unfold f_Mo_shock_J71 at h
          refine lv_iconst (v := 1) hx hb d_Mo_shock_71 (by decide) ?_
          refine lv_goto (tgt := 76) hx hb d_Mo_shock_72 (by decide) ?_
          exact K76 1 gMo_71 H locs ls hP hD hS (lv_sub hl [0, 1, 2] rfl) h
        refine lv_icmp_gt (tgt := 71) hx hb d_Mo_shock_50 (by decide) (fun c_14 => ?_) (fun c_14 => ?_)
        · rw [if_pos c_14] at h
          exact K71 gMo_4 H locs ls hP hD hS (lv_sub hl [0, 1, 2] rfl) h
        · rw [if_neg c_14] at h
          refine lv_iload_n hx hb d_Mo_shock_53 rfl (lv_at hl 1 rfl) ?_
          refine lv_aload_n hx hb d_Mo_shock_54 rfl (lv_at hl 0 rfl) ?_
          refine va_get (ci := 8) (v := .int (gMo_4 0 24)) (C := R_Mo) (T := F_Mo) (N := 31) hx hb hts i_Mo hown hK hP 0 rfl rfl 24 (by decide) (hts _ m_728) (fun _ h9 => h9) rfl d_Mo_shock_55 ?_
          refine lv_iconst (v := 2) hx hb d_Mo_shock_58 (by decide) ?_
          refine lv_idiv hx hb d_Mo_shock_59 (by decide) ?_
          refine lv_icmp_le (tgt := 75) hx hb d_Mo_shock_60 (by decide) (fun c_15 => ?_) (fun c_15 => ?_)
          · rw [if_pos c_15] at h
            exact K75 gMo_4 H locs ls hP hD hS (lv_sub hl [0, 1, 2] rfl) h
          · rw [if_neg c_15] at h
            refine lv_iload_n hx hb d_Mo_shock_63 rfl (lv_at hl 2 rfl) ?_
            refine lv_aload_n hx hb d_Mo_shock_64 rfl (lv_at hl 0 rfl) ?_
            refine va_get (ci := 8) (v := .int (gMo_4 0 25)) (C := R_Mo) (T := F_Mo) (N := 31) hx hb hts i_Mo hown hK hP 0 rfl rfl 25 (by decide) (hts _ m_729) (fun _ h9 => h9) rfl d_Mo_shock_65 ?_
            refine lv_icmp_le (tgt := 75) hx hb d_Mo_shock_68 (by decide) (fun c_16 => ?_) (fun c_16 => ?_)
            · rw [if_pos c_16] at h
              exact K75 gMo_4 H locs ls hP hD hS (lv_sub hl [0, 1, 2] rfl) h
            · rw [if_neg c_16] at h
              exact K71 gMo_4 H locs ls hP hD hS (lv_sub hl [0, 1, 2] rfl) h
    · rw [if_pos c_6] at h
      refine lv_iconst (v := 0) hx hb d_Mo_shock_36 (by decide) ?_
      cases h
      rw [hQ]
      exact mi_ret C0 hr rfl hlk hP hD hS d_Mo_shock_37
  have K27 : ∀ (H : Heap) (locs : List Loc) (ls : Array Slot), va_P D vwCl (wMo xMo cI cZ gMo) H → va_D A (wMo xMo cI cZ gMo) → va_S A s.heap H locs → lv_has ls 4 [(0, .ref (xMo 0)), (1, .int p1), (2, .int p2)] → f_Mo_shock_J27 gMo p1 p2 = some (r, gMo1) → W p l e rm_Mo_shock_r s m args below meth c H locs 0 0 Q (F0 m 27 ls [.ref (xMo 0)]) := by
    intro  H locs ls hP hD hS hl h
    unfold f_Mo_shock_J27 at h
    refine lv_iconst (v := 0) hx hb d_Mo_shock_27 (by decide) ?_
    exact K28 0 H locs ls hP hD hS (lv_sub hl [0, 1, 2] rfl) h
  refine lv_if_eq (tgt := 27) hx hb d_Mo_shock_9 (by decide) (fun c_17 => ?_) (fun c_17 => ?_)
  · rw [if_pos c_17] at h
    exact K27  H locs ls hP hD hS (lv_sub hl [0, 1, 2] rfl) h
  · rw [if_neg c_17] at h
    refine lv_iload_n hx hb d_Mo_shock_12 rfl (lv_at hl 2 rfl) ?_
    refine lv_iconst (v := 0) hx hb d_Mo_shock_13 (by decide) ?_
    refine lv_sipush (v := 10000) hx hb d_Mo_shock_14 (by decide) ?_
    obtain ⟨r_18, hc_19, h⟩ := xv1_i h
    refine cSi (ws' := (wMo xMo cI cZ gMo)) (As := [.int p2, .int 0, .int 10000]) (rest := [.ref (xMo 0)]) C0 hP hD hS hl.1 [] (c_Mo_within_r l D cI cZ cJ  H.size p2 0 10000 r_18 hc_19) k_Mo_within m_806 rfl rfl rfl (rp_same rfl) ⟨by decide, by decide⟩ ⟨rfl, rfl⟩ rfl (Nat.le_of_ble_eq_true rfl) d_Mo_shock_17 ⟨Nat.zero_le _, Nat.zero_le _⟩ (fun H locs hP hD hS => ?_)
    refine lv_if_eq (tgt := 27) hx hb d_Mo_shock_20 (by decide) (fun c_20 => ?_) (fun c_20 => ?_)
    · rw [if_pos c_20] at h
      exact K27  H locs ls hP hD hS (lv_sub hl [0, 1, 2] rfl) h
    · rw [if_neg c_20] at h
      refine lv_iconst (v := 1) hx hb d_Mo_shock_23 (by decide) ?_
      refine lv_goto (tgt := 28) hx hb d_Mo_shock_24 (by decide) ?_
      exact K28 1 H locs ls hP hD hS (lv_sub hl [0, 1, 2] rfl) h
abbrev rm_Mo_route_r : Room := { frames := 1, cells := 0, slots := 0, locals := 23 }
set_option maxRecDepth 100000 in
set_option maxHeartbeats 4000000 in
theorem c_Mo_route_r (l : Launch) (D : va_G) (cI cZ cJ : ClassId) (xMo : Nat → Nat) (sz : Nat) (gMo : St) (p1 : Int32) (p2 : Int32) (r : Int32) (gMo1 : St) (h : f_Mo_route gMo p1 p2 = some (r, gMo1)) : MI l y_Mo_route b_Mo_route 6 (some .int) rm_Mo_route_r D (TYS cI cZ cJ) [.ref (xMo 0), .int p1, .int p2] (wMo xMo cI cZ gMo) sz r (wMo xMo cI cZ gMo1) := by
  refine mi_start (own := R_Mo) (by decide +kernel) rfl (Nat.le_of_ble_eq_true rfl) (fun p e s m args below meth c A ls C0 hr hlk hP hD hS hl => ?_)
  obtain ⟨Q, hQ⟩ : ∃ Q, Q = QI below D (TYS cI cZ cJ) A (wMo xMo cI cZ gMo1) r args s := ⟨_, rfl⟩
  rw [← hQ]
  obtain ⟨hx, hb, -, hown, hts, hK, hE, -⟩ := id C0
  have hl : lv_has ls 6 [(0, .ref (xMo 0)), (1, .int p1), (2, .int p2)] := hl
  obtain ⟨H, hH⟩ : ∃ H, H = s.heap := ⟨_, rfl⟩
  have hP : va_P D vwCl (wMo xMo cI cZ gMo) H := by rw [hH]; exact hP
  have hS : va_S A s.heap H [] := by rw [hH]; exact hS
  rw [show W p l e rm_Mo_route_r s m args below meth c s.heap = W p l e rm_Mo_route_r s m args below meth c H by rw [hH]]
  generalize ([] : List Loc) = locs at hS ⊢
  unfold f_Mo_route at h
  refine lv_aload_n hx hb d_Mo_route_0 rfl (lv_at hl 0 rfl) ?_
  refine lv_iload_n hx hb d_Mo_route_1 rfl (lv_at hl 1 rfl) ?_
  refine lv_iconst (v := 0) hx hb d_Mo_route_2 (by decide) ?_
  refine lv_ldc hx hb hown (hts _ m_937) d_Mo_route_3 ?_
  obtain ⟨r_1, hc_2, h⟩ := xv1_i h
  refine cSi (ws' := (wMo xMo cI cZ gMo)) (As := [.int p1, .int 0, .int 65536]) (rest := [.ref (xMo 0)]) C0 hP hD hS hl.1 [] (c_Mo_within_r l D cI cZ cJ  H.size p1 0 65536 r_1 hc_2) k_Mo_within m_806 rfl rfl rfl (rp_same rfl) ⟨by decide, by decide⟩ ⟨rfl, rfl⟩ rfl (Nat.le_of_ble_eq_true rfl) d_Mo_route_5 ⟨Nat.zero_le _, Nat.zero_le _⟩ (fun H locs hP hD hS => ?_)
  have K26 : ∀ (s1_26 : Int32) (H : Heap) (locs : List Loc) (ls : Array Slot), va_P D vwCl (wMo xMo cI cZ gMo) H → va_D A (wMo xMo cI cZ gMo) → va_S A s.heap H locs → lv_has ls 6 [(0, .ref (xMo 0)), (1, .int p1), (2, .int p2)] → f_Mo_route_J26 gMo p1 p2 s1_26 = some (r, gMo1) → W p l e rm_Mo_route_r s m args below meth c H locs 0 0 Q (F0 m 26 ls [.int s1_26, .ref (xMo 0)]) := by
    intro s1_26 H locs ls hP hD hS hl h
    unfold f_Mo_route_J26 at h
    refine lv_iconst (v := 1) hx hb d_Mo_route_26 (by decide) ?_
    refine lv_iconst (v := 1) hx hb d_Mo_route_27 (by decide) ?_
    obtain ⟨r_3, gMo_4, hc_5, h⟩ := xv2_i h
    refine cVi (ws' := (wMo xMo cI cZ gMo_4)) (As := [.int s1_26, .int 1, .int 1]) (rest := []) C0 hP hD hS hl.1 [0, 1, 2, 3, 4, 5, 6, 7, 8, 9, 10, 11, 12, 13, 14, 15] (c_Mo_goes_r l D cI cZ cJ xMo H.size gMo s1_26 1 1 r_3 gMo_4 hc_5) k_Mo_goes m_810 rfl rfl rfl rfl rfl (rp_all rfl rfl) ⟨by decide, by decide⟩ ⟨rfl, rfl⟩ rfl (Nat.le_of_ble_eq_true rfl) d_Mo_route_28 ⟨Nat.zero_le _, Nat.zero_le _⟩ (fun H locs hP hD hS => ?_)
    refine lv_if_ne (tgt := 36) hx hb d_Mo_route_31 (by decide) (fun c_6 => ?_) (fun c_6 => ?_)
    · rw [if_neg c_6] at h
      refine lv_iload_n hx hb d_Mo_route_36 rfl (lv_at hl 1 rfl) ?_
      refine lv_istore_n (lv' := [(3, .int p1), (0, .ref (xMo 0)), (1, .int p1), (2, .int p2)]) hx hb d_Mo_route_37 rfl hl (by decide) rfl (fun ls hl => ?_)
      refine lv_iconst (v := 0) hx hb d_Mo_route_38 (by decide) ?_
      refine lv_istore (lv' := [(4, .int 0), (3, .int p1), (0, .ref (xMo 0)), (1, .int p1), (2, .int p2)]) hx hb d_Mo_route_39 hl (by decide) rfl (fun ls hl => ?_)
      refine lv_iconst (v := 0) hx hb d_Mo_route_41 (by decide) ?_
      refine lv_istore (lv' := [(5, .int 0), (4, .int 0), (3, .int p1), (0, .ref (xMo 0)), (1, .int p1), (2, .int p2)]) hx hb d_Mo_route_42 hl (by decide) rfl (fun ls hl => ?_)
      have K93 : ∀ (v3_93 : Int32) (v4_93 : Int32) (v5_93 : Int32) (gMo_93 : St) (H : Heap) (locs : List Loc) (ls : Array Slot), va_P D vwCl (wMo xMo cI cZ gMo_93) H → va_D A (wMo xMo cI cZ gMo_93) → va_S A s.heap H locs → lv_has ls 6 [(0, .ref (xMo 0)), (1, .int p1), (2, .int p2), (3, .int v3_93), (4, .int v4_93), (5, .int v5_93)] → f_Mo_route_X93 p2 v3_93 v4_93 v5_93 gMo_93 = some (r, gMo1) → W p l e rm_Mo_route_r s m args below meth c H locs 0 0 Q (F0 m 93 ls []) := by
        intro v3_93 v4_93 v5_93 gMo_93 H locs ls hP hD hS hl h
        unfold f_Mo_route_X93 at h
        refine lv_aload_n hx hb d_Mo_route_93 rfl (lv_at hl 0 rfl) ?_
        refine lv_iload_n hx hb d_Mo_route_94 rfl (lv_at hl 2 rfl) ?_
        refine va_put (ci := 8) (v := .int p2) (ty := .int) (C := R_Mo) (T := F_Mo) (N := 31) hx hb hts i_Mo t_Mo o_Mo n_Mo hown hK hP hD hS 0 rfl rfl 29 (by decide) (hts _ m_733) (fun _ h9 => h9) rfl (by decide +kernel) rfl rfl (Nat.le_of_ble_eq_true rfl) d_Mo_route_95 (fun H locs hP hD hS => ?_)
        obtain ⟨gMo_7, egMo_7, h⟩ := letb_i h
        have hP : va_P D vwCl (wMo xMo cI cZ gMo_7) H := by rw [egMo_7, u_Mo_0_29]; exact hP
        have hD : va_D A (wMo xMo cI cZ gMo_7) := by rw [egMo_7, u_Mo_0_29]; exact hD
        refine lv_iload hx hb d_Mo_route_98 (lv_at hl 4 rfl) ?_
        cases h
        rw [hQ]
        exact mi_ret C0 hr rfl hlk hP hD hS d_Mo_route_100
      have K44 : ∀ (n : Nat) (v3_44 : Int32) (v4_44 : Int32) (v5_44 : Int32) (gMo_44 : St) (H : Heap) (locs : List Loc) (ls : Array Slot), va_P D vwCl (wMo xMo cI cZ gMo_44) H → va_D A (wMo xMo cI cZ gMo_44) → va_S A s.heap H locs → lv_has ls 6 [(0, .ref (xMo 0)), (1, .int p1), (2, .int p2), (3, .int v3_44), (4, .int v4_44), (5, .int v5_44)] → it4 (f_Mo_route_L44 p2) n v3_44 v4_44 v5_44 gMo_44 = some (r, gMo1) → W p l e rm_Mo_route_r s m args below meth c H locs 0 0 Q (F0 m 44 ls []) := by
        intro n
        induction n with
        | zero => intro v3_44 v4_44 v5_44 gMo_44 H locs ls hP hD hS hl h; exact (it4_0 h).elim
        | succ n ih =>
          intro v3_44 v4_44 v5_44 gMo_44 H locs ls hP hD hS hl h
          rw [it4_s, f_Mo_route_L44] at h
          generalize it4 (f_Mo_route_L44 p2) n = kc_44 at h ih
          refine lv_iload hx hb d_Mo_route_44 (lv_at hl 5 rfl) ?_
          refine lv_iload_n hx hb d_Mo_route_46 rfl (lv_at hl 2 rfl) ?_
          refine lv_icmp_ge (tgt := 93) hx hb d_Mo_route_47 (by decide) (fun c_8 => ?_) (fun c_8 => ?_)
          · rw [if_pos c_8] at h
            exact K93 v3_44 v4_44 v5_44 gMo_44 H locs ls hP hD hS (lv_sub hl [0, 1, 2, 3, 4, 5] rfl) h
          · rw [if_neg c_8] at h
            refine lv_bipush (v := 75) hx hb d_Mo_route_50 (by decide) ?_
            refine lv_iload_n hx hb d_Mo_route_52 rfl (lv_at hl 3 rfl) ?_
            refine lv_imul hx hb d_Mo_route_53 ?_
            refine lv_bipush (v := 74) hx hb d_Mo_route_54 (by decide) ?_
            refine lv_iadd hx hb d_Mo_route_56 ?_
            refine lv_ldc hx hb hown (hts _ m_938) d_Mo_route_57 ?_
            refine lv_irem hx hb d_Mo_route_59 (by decide) ?_
            obtain ⟨x_9, ex_9, h⟩ := letb_i h
            refine lv_topn ex_9 ?_
            refine lv_istore_n (lv' := [(3, .int x_9), (0, .ref (xMo 0)), (1, .int p1), (2, .int p2), (4, .int v4_44), (5, .int v5_44)]) hx hb d_Mo_route_60 rfl hl (by decide) rfl (fun ls hl => ?_)
            refine lv_aload_n hx hb d_Mo_route_61 rfl (lv_at hl 1 rfl) ?_
            refine va_get (ci := 8) (v := .ref (xMo 15)) (C := R_Mo) (T := F_Mo) (N := 31) hx hb hts i_Mo hown hK hP 0 rfl rfl 30 (by decide) (hts _ m_734) (fun _ h9 => h9) rfl d_Mo_route_62 ?_
            refine lv_iload hx hb d_Mo_route_65 (lv_at hl 5 rfl) ?_
            refine lv_bipush (v := 10) hx hb d_Mo_route_67 (by decide) ?_
            refine lv_iload_n hx hb d_Mo_route_69 rfl (lv_at hl 0 rfl) ?_
            refine lv_bipush (v := 91) hx hb d_Mo_route_70 (by decide) ?_
            refine lv_irem hx hb d_Mo_route_72 (by decide) ?_
            refine lv_iadd hx hb d_Mo_route_73 ?_
            obtain ⟨hi_10, h⟩ := gb_i h
            refine va_iast hx hb hK hP hD hS 15 0 rfl rfl (inb_in hi_10) d_Mo_route_74 (fun H locs hP hD hS => ?_)
            obtain ⟨gMo_11, egMo_11, h⟩ := letb_i h
            have hP : va_P D vwCl (wMo xMo cI cZ gMo_11) H := by rw [egMo_11, u_Mo_15]; exact hP
            have hD : va_D A (wMo xMo cI cZ gMo_11) := by rw [egMo_11, u_Mo_15]; exact hD
            refine lv_iload hx hb d_Mo_route_75 (lv_at hl 4 rfl) ?_
            refine lv_aload_n hx hb d_Mo_route_77 rfl (lv_at hl 1 rfl) ?_
            refine va_get (ci := 8) (v := .ref (xMo 15)) (C := R_Mo) (T := F_Mo) (N := 31) hx hb hts i_Mo hown hK hP 0 rfl rfl 30 (by decide) (hts _ m_734) (fun _ h9 => h9) rfl d_Mo_route_78 ?_
            refine lv_iload hx hb d_Mo_route_81 (lv_at hl 5 rfl) ?_
            obtain ⟨hi_12, h⟩ := gb_i h
            refine va_iald hx hb hK hP 15 0 rfl rfl (inb_in hi_12) d_Mo_route_83 ?_
            obtain ⟨x_13, ex_13, h⟩ := letb_i h
            refine lv_topn ex_13 ?_
            refine lv_iadd hx hb d_Mo_route_84 ?_
            obtain ⟨x_14, ex_14, h⟩ := letb_i h
            refine lv_topn ex_14 ?_
            refine lv_istore (lv' := [(4, .int x_14), (3, .int x_9), (0, .ref (xMo 0)), (1, .int p1), (2, .int p2), (5, .int v5_44)]) hx hb d_Mo_route_85 hl (by decide) rfl (fun ls hl => ?_)
            obtain ⟨x_15, ex_15, h⟩ := letb_i h
            refine lv_iinc (v := x_15) (lv' := [(5, .int x_15), (4, .int x_14), (3, .int x_9), (0, .ref (xMo 0)), (1, .int p1), (2, .int p2)]) hx hb d_Mo_route_87 hl (k := 5) rfl (by rw [ex_15]; rfl) (by decide) rfl (fun ls hl => ?_)
            refine lv_goto (tgt := 44) hx hb d_Mo_route_90 (by decide) ?_
            exact ih x_9 x_14 x_15 gMo_11 H locs ls hP hD hS (lv_sub hl [3, 4, 5, 2, 1, 0] rfl) h
      exact K44 FU p1 0 0 gMo_4 H locs ls hP hD hS (lv_sub hl [3, 4, 5, 2, 1, 0] rfl) h
    · rw [if_pos c_6] at h
      refine lv_iconst (v := 0) hx hb d_Mo_route_34 (by decide) ?_
      cases h
      rw [hQ]
      exact mi_ret C0 hr rfl hlk hP hD hS d_Mo_route_35
  have K25 : ∀ (H : Heap) (locs : List Loc) (ls : Array Slot), va_P D vwCl (wMo xMo cI cZ gMo) H → va_D A (wMo xMo cI cZ gMo) → va_S A s.heap H locs → lv_has ls 6 [(0, .ref (xMo 0)), (1, .int p1), (2, .int p2)] → f_Mo_route_J25 gMo p1 p2 = some (r, gMo1) → W p l e rm_Mo_route_r s m args below meth c H locs 0 0 Q (F0 m 25 ls [.ref (xMo 0)]) := by
    intro  H locs ls hP hD hS hl h
    unfold f_Mo_route_J25 at h
    refine lv_iconst (v := 0) hx hb d_Mo_route_25 (by decide) ?_
    exact K26 0 H locs ls hP hD hS (lv_sub hl [0, 1, 2] rfl) h
  refine lv_if_eq (tgt := 25) hx hb d_Mo_route_8 (by decide) (fun c_16 => ?_) (fun c_16 => ?_)
  · rw [if_pos c_16] at h
    exact K25  H locs ls hP hD hS (lv_sub hl [0, 1, 2] rfl) h
  · rw [if_neg c_16] at h
    refine lv_iload_n hx hb d_Mo_route_11 rfl (lv_at hl 2 rfl) ?_
    refine lv_iconst (v := 1) hx hb d_Mo_route_12 (by decide) ?_
    refine lv_bipush (v := 50) hx hb d_Mo_route_13 (by decide) ?_
    obtain ⟨r_17, hc_18, h⟩ := xv1_i h
    refine cSi (ws' := (wMo xMo cI cZ gMo)) (As := [.int p2, .int 1, .int 50]) (rest := [.ref (xMo 0)]) C0 hP hD hS hl.1 [] (c_Mo_within_r l D cI cZ cJ  H.size p2 1 50 r_17 hc_18) k_Mo_within m_806 rfl rfl rfl (rp_same rfl) ⟨by decide, by decide⟩ ⟨rfl, rfl⟩ rfl (Nat.le_of_ble_eq_true rfl) d_Mo_route_15 ⟨Nat.zero_le _, Nat.zero_le _⟩ (fun H locs hP hD hS => ?_)
    refine lv_if_eq (tgt := 25) hx hb d_Mo_route_18 (by decide) (fun c_19 => ?_) (fun c_19 => ?_)
    · rw [if_pos c_19] at h
      exact K25  H locs ls hP hD hS (lv_sub hl [0, 1, 2] rfl) h
    · rw [if_neg c_19] at h
      refine lv_iconst (v := 1) hx hb d_Mo_route_21 (by decide) ?_
      refine lv_goto (tgt := 26) hx hb d_Mo_route_22 (by decide) ?_
      exact K26 1 H locs ls hP hD hS (lv_sub hl [0, 1, 2] rfl) h
abbrev rm_Mo_drop_r : Room := { frames := 1, cells := 0, slots := 0, locals := 23 }
set_option maxRecDepth 100000 in
set_option maxHeartbeats 4000000 in
theorem c_Mo_drop_r (l : Launch) (D : va_G) (cI cZ cJ : ClassId) (xMo : Nat → Nat) (sz : Nat) (gMo : St) (p1 : Int32) (r : Int32) (gMo1 : St) (h : f_Mo_drop gMo p1 = some (r, gMo1)) : MI l y_Mo_drop b_Mo_drop 2 (some .int) rm_Mo_drop_r D (TYS cI cZ cJ) [.ref (xMo 0), .int p1] (wMo xMo cI cZ gMo) sz r (wMo xMo cI cZ gMo1) := by
  refine mi_start (own := R_Mo) (by decide +kernel) rfl (Nat.le_of_ble_eq_true rfl) (fun p e s m args below meth c A ls C0 hr hlk hP hD hS hl => ?_)
  obtain ⟨Q, hQ⟩ : ∃ Q, Q = QI below D (TYS cI cZ cJ) A (wMo xMo cI cZ gMo1) r args s := ⟨_, rfl⟩
  rw [← hQ]
  obtain ⟨hx, hb, -, hown, hts, hK, hE, -⟩ := id C0
  have hl : lv_has ls 2 [(0, .ref (xMo 0)), (1, .int p1)] := hl
  obtain ⟨H, hH⟩ : ∃ H, H = s.heap := ⟨_, rfl⟩
  have hP : va_P D vwCl (wMo xMo cI cZ gMo) H := by rw [hH]; exact hP
  have hS : va_S A s.heap H [] := by rw [hH]; exact hS
  rw [show W p l e rm_Mo_drop_r s m args below meth c s.heap = W p l e rm_Mo_drop_r s m args below meth c H by rw [hH]]
  generalize ([] : List Loc) = locs at hS ⊢
  unfold f_Mo_drop at h
  refine lv_aload_n hx hb d_Mo_drop_0 rfl (lv_at hl 0 rfl) ?_
  refine lv_iload_n hx hb d_Mo_drop_1 rfl (lv_at hl 1 rfl) ?_
  have K18 : ∀ (s1_18 : Int32) (H : Heap) (locs : List Loc) (ls : Array Slot), va_P D vwCl (wMo xMo cI cZ gMo) H → va_D A (wMo xMo cI cZ gMo) → va_S A s.heap H locs → lv_has ls 2 [(0, .ref (xMo 0)), (1, .int p1)] → f_Mo_drop_J18 gMo p1 s1_18 = some (r, gMo1) → W p l e rm_Mo_drop_r s m args below meth c H locs 0 0 Q (F0 m 18 ls [.int s1_18, .ref (xMo 0)]) := by
    intro s1_18 H locs ls hP hD hS hl h
    unfold f_Mo_drop_J18 at h
    refine lv_iconst (v := 1) hx hb d_Mo_drop_18 (by decide) ?_
    refine lv_iconst (v := 1) hx hb d_Mo_drop_19 (by decide) ?_
    obtain ⟨r_1, gMo_2, hc_3, h⟩ := xv2_i h
    refine cVi (ws' := (wMo xMo cI cZ gMo_2)) (As := [.int s1_18, .int 1, .int 1]) (rest := []) C0 hP hD hS hl.1 [0, 1, 2, 3, 4, 5, 6, 7, 8, 9, 10, 11, 12, 13, 14, 15] (c_Mo_goes_r l D cI cZ cJ xMo H.size gMo s1_18 1 1 r_1 gMo_2 hc_3) k_Mo_goes m_810 rfl rfl rfl rfl rfl (rp_all rfl rfl) ⟨by decide, by decide⟩ ⟨rfl, rfl⟩ rfl (Nat.le_of_ble_eq_true rfl) d_Mo_drop_20 ⟨Nat.zero_le _, Nat.zero_le _⟩ (fun H locs hP hD hS => ?_)
    refine lv_if_eq (tgt := 35) hx hb d_Mo_drop_23 (by decide) (fun c_4 => ?_) (fun c_4 => ?_)
    · rw [if_pos c_4] at h
      refine lv_iconst (v := 0) hx hb d_Mo_drop_35 (by decide) ?_
      cases h
      rw [hQ]
      exact mi_ret C0 hr rfl hlk hP hD hS d_Mo_drop_36
    · rw [if_neg c_4] at h
      refine lv_aload_n hx hb d_Mo_drop_26 rfl (lv_at hl 0 rfl) ?_
      refine va_get (ci := 8) (v := .ref (xMo 15)) (C := R_Mo) (T := F_Mo) (N := 31) hx hb hts i_Mo hown hK hP 0 rfl rfl 30 (by decide) (hts _ m_734) (fun _ h9 => h9) rfl d_Mo_drop_27 ?_
      refine lv_iload_n hx hb d_Mo_drop_30 rfl (lv_at hl 1 rfl) ?_
      obtain ⟨hi_5, h⟩ := gb_i h
      refine va_iald hx hb hK hP 15 0 rfl rfl (inb_in hi_5) d_Mo_drop_31 ?_
      obtain ⟨x_6, ex_6, h⟩ := letb_i h
      refine lv_topn ex_6 ?_
      refine lv_goto (tgt := 36) hx hb d_Mo_drop_32 (by decide) ?_
      cases h
      rw [hQ]
      exact mi_ret C0 hr rfl hlk hP hD hS d_Mo_drop_36
  have K17 : ∀ (H : Heap) (locs : List Loc) (ls : Array Slot), va_P D vwCl (wMo xMo cI cZ gMo) H → va_D A (wMo xMo cI cZ gMo) → va_S A s.heap H locs → lv_has ls 2 [(0, .ref (xMo 0)), (1, .int p1)] → f_Mo_drop_J17 gMo p1 = some (r, gMo1) → W p l e rm_Mo_drop_r s m args below meth c H locs 0 0 Q (F0 m 17 ls [.ref (xMo 0)]) := by
    intro  H locs ls hP hD hS hl h
    unfold f_Mo_drop_J17 at h
    refine lv_iconst (v := 0) hx hb d_Mo_drop_17 (by decide) ?_
    exact K18 0 H locs ls hP hD hS (lv_sub hl [0, 1] rfl) h
  refine lv_if_lt (tgt := 17) hx hb d_Mo_drop_2 (by decide) (fun c_7 => ?_) (fun c_7 => ?_)
  · rw [if_pos c_7] at h
    exact K17  H locs ls hP hD hS (lv_sub hl [0, 1] rfl) h
  · rw [if_neg c_7] at h
    refine lv_iload_n hx hb d_Mo_drop_5 rfl (lv_at hl 1 rfl) ?_
    refine lv_aload_n hx hb d_Mo_drop_6 rfl (lv_at hl 0 rfl) ?_
    refine va_get (ci := 8) (v := .int (gMo 0 29)) (C := R_Mo) (T := F_Mo) (N := 31) hx hb hts i_Mo hown hK hP 0 rfl rfl 29 (by decide) (hts _ m_733) (fun _ h9 => h9) rfl d_Mo_drop_7 ?_
    refine lv_icmp_ge (tgt := 17) hx hb d_Mo_drop_10 (by decide) (fun c_8 => ?_) (fun c_8 => ?_)
    · rw [if_pos c_8] at h
      exact K17  H locs ls hP hD hS (lv_sub hl [0, 1] rfl) h
    · rw [if_neg c_8] at h
      refine lv_iconst (v := 1) hx hb d_Mo_drop_13 (by decide) ?_
      refine lv_goto (tgt := 18) hx hb d_Mo_drop_14 (by decide) ?_
      exact K18 1 H locs ls hP hD hS (lv_sub hl [0, 1] rfl) h
abbrev rm_Mo_count_r : Room := { frames := 1, cells := 0, slots := 0, locals := 23 }
set_option maxRecDepth 100000 in
set_option maxHeartbeats 4000000 in
theorem c_Mo_count_r (l : Launch) (D : va_G) (cI cZ cJ : ClassId) (xMo : Nat → Nat) (sz : Nat) (gMo : St) (p1 : Int32) (r : Int32) (gMo1 : St) (h : f_Mo_count gMo p1 = some (r, gMo1)) : MI l y_Mo_count b_Mo_count 4 (some .int) rm_Mo_count_r D (TYS cI cZ cJ) [.ref (xMo 0), .int p1] (wMo xMo cI cZ gMo) sz r (wMo xMo cI cZ gMo1) := by
  refine mi_start (own := R_Mo) (by decide +kernel) rfl (Nat.le_of_ble_eq_true rfl) (fun p e s m args below meth c A ls C0 hr hlk hP hD hS hl => ?_)
  obtain ⟨Q, hQ⟩ : ∃ Q, Q = QI below D (TYS cI cZ cJ) A (wMo xMo cI cZ gMo1) r args s := ⟨_, rfl⟩
  rw [← hQ]
  obtain ⟨hx, hb, -, hown, hts, hK, hE, -⟩ := id C0
  have hl : lv_has ls 4 [(0, .ref (xMo 0)), (1, .int p1)] := hl
  obtain ⟨H, hH⟩ : ∃ H, H = s.heap := ⟨_, rfl⟩
  have hP : va_P D vwCl (wMo xMo cI cZ gMo) H := by rw [hH]; exact hP
  have hS : va_S A s.heap H [] := by rw [hH]; exact hS
  rw [show W p l e rm_Mo_count_r s m args below meth c s.heap = W p l e rm_Mo_count_r s m args below meth c H by rw [hH]]
  generalize ([] : List Loc) = locs at hS ⊢
  unfold f_Mo_count at h
  refine lv_aload_n hx hb d_Mo_count_0 rfl (lv_at hl 0 rfl) ?_
  refine lv_iload_n hx hb d_Mo_count_1 rfl (lv_at hl 1 rfl) ?_
  refine lv_iconst (v := 0) hx hb d_Mo_count_2 (by decide) ?_
  refine lv_iconst (v := 5) hx hb d_Mo_count_3 (by decide) ?_
  obtain ⟨r_1, hc_2, h⟩ := xv1_i h
  refine cSi (ws' := (wMo xMo cI cZ gMo)) (As := [.int p1, .int 0, .int 5]) (rest := [.ref (xMo 0)]) C0 hP hD hS hl.1 [] (c_Mo_within_r l D cI cZ cJ  H.size p1 0 5 r_1 hc_2) k_Mo_within m_806 rfl rfl rfl (rp_same rfl) ⟨by decide, by decide⟩ ⟨rfl, rfl⟩ rfl (Nat.le_of_ble_eq_true rfl) d_Mo_count_4 ⟨Nat.zero_le _, Nat.zero_le _⟩ (fun H locs hP hD hS => ?_)
  refine lv_iconst (v := 1) hx hb d_Mo_count_7 (by decide) ?_
  refine lv_iconst (v := 1) hx hb d_Mo_count_8 (by decide) ?_
  obtain ⟨r_3, gMo_4, hc_5, h⟩ := xv2_i h
  refine cVi (ws' := (wMo xMo cI cZ gMo_4)) (As := [.int r_1, .int 1, .int 1]) (rest := []) C0 hP hD hS hl.1 [0, 1, 2, 3, 4, 5, 6, 7, 8, 9, 10, 11, 12, 13, 14, 15] (c_Mo_goes_r l D cI cZ cJ xMo H.size gMo r_1 1 1 r_3 gMo_4 hc_5) k_Mo_goes m_810 rfl rfl rfl rfl rfl (rp_all rfl rfl) ⟨by decide, by decide⟩ ⟨rfl, rfl⟩ rfl (Nat.le_of_ble_eq_true rfl) d_Mo_count_9 ⟨Nat.zero_le _, Nat.zero_le _⟩ (fun H locs hP hD hS => ?_)
  refine lv_if_ne (tgt := 17) hx hb d_Mo_count_12 (by decide) (fun c_6 => ?_) (fun c_6 => ?_)
  · rw [if_neg c_6] at h
    refine lv_iconst (v := 0) hx hb d_Mo_count_17 (by decide) ?_
    refine lv_istore_n (lv' := [(2, .int 0), (0, .ref (xMo 0)), (1, .int p1)]) hx hb d_Mo_count_18 rfl hl (by decide) rfl (fun ls hl => ?_)
    refine lv_iconst (v := 0) hx hb d_Mo_count_19 (by decide) ?_
    refine lv_istore_n (lv' := [(3, .int 0), (2, .int 0), (0, .ref (xMo 0)), (1, .int p1)]) hx hb d_Mo_count_20 rfl hl (by decide) rfl (fun ls hl => ?_)
    have K52 : ∀ (v2_52 : Int32) (v3_52 : Int32) (gMo_52 : St) (H : Heap) (locs : List Loc) (ls : Array Slot), va_P D vwCl (wMo xMo cI cZ gMo_52) H → va_D A (wMo xMo cI cZ gMo_52) → va_S A s.heap H locs → lv_has ls 4 [(0, .ref (xMo 0)), (1, .int p1), (2, .int v2_52), (3, .int v3_52)] → f_Mo_count_X52 p1 v2_52 v3_52 gMo_52 = some (r, gMo1) → W p l e rm_Mo_count_r s m args below meth c H locs 0 0 Q (F0 m 52 ls []) := by
      intro v2_52 v3_52 gMo_52 H locs ls hP hD hS hl h
      unfold f_Mo_count_X52 at h
      refine lv_iload_n hx hb d_Mo_count_52 rfl (lv_at hl 1 rfl) ?_
      by_cases c_7 : p1 = 0
      · rw [if_pos c_7] at h
        refine lv_tableIn (off := 35) (tgt := 88) hx hb d_Mo_count_53 (by rw [c_7]; decide) (by rw [c_7]; decide) (by rw [c_7]; rfl) (by decide) ?_
        refine lv_aload_n hx hb d_Mo_count_88 rfl (lv_at hl 0 rfl) ?_
        refine va_get (ci := 8) (v := .int (gMo_52 0 1)) (C := R_Mo) (T := F_Mo) (N := 31) hx hb hts i_Mo hown hK hP 0 rfl rfl 1 (by decide) (hts _ m_705) (fun _ h9 => h9) rfl d_Mo_count_89 ?_
        cases h
        rw [hQ]
        exact mi_ret C0 hr rfl hlk hP hD hS d_Mo_count_92
      rw [if_neg c_7] at h
      by_cases c_8 : p1 = 1
      · rw [if_pos c_8] at h
        refine lv_tableIn (off := 40) (tgt := 93) hx hb d_Mo_count_53 (by rw [c_8]; decide) (by rw [c_8]; decide) (by rw [c_8]; rfl) (by decide) ?_
        refine lv_aload_n hx hb d_Mo_count_93 rfl (lv_at hl 0 rfl) ?_
        refine va_get (ci := 8) (v := .int (gMo_52 0 18)) (C := R_Mo) (T := F_Mo) (N := 31) hx hb hts i_Mo hown hK hP 0 rfl rfl 18 (by decide) (hts _ m_722) (fun _ h9 => h9) rfl d_Mo_count_94 ?_
        cases h
        rw [hQ]
        exact mi_ret C0 hr rfl hlk hP hD hS d_Mo_count_97
      rw [if_neg c_8] at h
      by_cases c_9 : p1 = 2
      · rw [if_pos c_9] at h
        refine lv_tableIn (off := 45) (tgt := 98) hx hb d_Mo_count_53 (by rw [c_9]; decide) (by rw [c_9]; decide) (by rw [c_9]; rfl) (by decide) ?_
        refine lv_iload_n hx hb d_Mo_count_98 rfl (lv_at hl 2 rfl) ?_
        cases h
        rw [hQ]
        exact mi_ret C0 hr rfl hlk hP hD hS d_Mo_count_99
      rw [if_neg c_9] at h
      by_cases c_10 : p1 = 3
      · rw [if_pos c_10] at h
        refine lv_tableIn (off := 47) (tgt := 100) hx hb d_Mo_count_53 (by rw [c_10]; decide) (by rw [c_10]; decide) (by rw [c_10]; rfl) (by decide) ?_
        refine lv_aload_n hx hb d_Mo_count_100 rfl (lv_at hl 0 rfl) ?_
        refine va_get (ci := 8) (v := .int (gMo_52 0 21)) (C := R_Mo) (T := F_Mo) (N := 31) hx hb hts i_Mo hown hK hP 0 rfl rfl 21 (by decide) (hts _ m_725) (fun _ h9 => h9) rfl d_Mo_count_101 ?_
        cases h
        rw [hQ]
        exact mi_ret C0 hr rfl hlk hP hD hS d_Mo_count_104
      rw [if_neg c_10] at h
      by_cases c_11 : p1 = 4
      · rw [if_pos c_11] at h
        refine lv_tableIn (off := 52) (tgt := 105) hx hb d_Mo_count_53 (by rw [c_11]; decide) (by rw [c_11]; decide) (by rw [c_11]; rfl) (by decide) ?_
        refine lv_aload_n hx hb d_Mo_count_105 rfl (lv_at hl 0 rfl) ?_
        refine va_get (ci := 8) (v := .int (gMo_52 0 27)) (C := R_Mo) (T := F_Mo) (N := 31) hx hb hts i_Mo hown hK hP 0 rfl rfl 27 (by decide) (hts _ m_731) (fun _ h9 => h9) rfl d_Mo_count_106 ?_
        cases h
        rw [hQ]
        exact mi_ret C0 hr rfl hlk hP hD hS d_Mo_count_109
      rw [if_neg c_11] at h
      have qc_7 := lv_neT c_7 (show (0 : Int32).toInt = 0 by decide)
      have qc_8 := lv_neT c_8 (show (1 : Int32).toInt = 1 by decide)
      have qc_9 := lv_neT c_9 (show (2 : Int32).toInt = 2 by decide)
      have qc_10 := lv_neT c_10 (show (3 : Int32).toInt = 3 by decide)
      have qc_11 := lv_neT c_11 (show (4 : Int32).toInt = 4 by decide)
      refine lv_tableOut (tgt := 110) hx hb d_Mo_count_53 (by omega) (by decide) ?_
      refine lv_aload_n hx hb d_Mo_count_110 rfl (lv_at hl 0 rfl) ?_
      refine va_get (ci := 8) (v := .int (gMo_52 0 28)) (C := R_Mo) (T := F_Mo) (N := 31) hx hb hts i_Mo hown hK hP 0 rfl rfl 28 (by decide) (hts _ m_732) (fun _ h9 => h9) rfl d_Mo_count_111 ?_
      cases h
      rw [hQ]
      exact mi_ret C0 hr rfl hlk hP hD hS d_Mo_count_114
    have K21 : ∀ (n : Nat) (v2_21 : Int32) (v3_21 : Int32) (gMo_21 : St) (H : Heap) (locs : List Loc) (ls : Array Slot), va_P D vwCl (wMo xMo cI cZ gMo_21) H → va_D A (wMo xMo cI cZ gMo_21) → va_S A s.heap H locs → lv_has ls 4 [(0, .ref (xMo 0)), (1, .int p1), (2, .int v2_21), (3, .int v3_21)] → it3 (f_Mo_count_L21 p1) n v2_21 v3_21 gMo_21 = some (r, gMo1) → W p l e rm_Mo_count_r s m args below meth c H locs 0 0 Q (F0 m 21 ls []) := by
      intro n
      induction n with
      | zero => intro v2_21 v3_21 gMo_21 H locs ls hP hD hS hl h; exact (it3_0 h).elim
      | succ n ih =>
        intro v2_21 v3_21 gMo_21 H locs ls hP hD hS hl h
        rw [it3_s, f_Mo_count_L21] at h
        generalize it3 (f_Mo_count_L21 p1) n = kc_21 at h ih
        refine lv_iload_n hx hb d_Mo_count_21 rfl (lv_at hl 3 rfl) ?_
        refine lv_aload_n hx hb d_Mo_count_22 rfl (lv_at hl 0 rfl) ?_
        refine va_get (ci := 8) (v := .int (gMo_21 0 18)) (C := R_Mo) (T := F_Mo) (N := 31) hx hb hts i_Mo hown hK hP 0 rfl rfl 18 (by decide) (hts _ m_722) (fun _ h9 => h9) rfl d_Mo_count_23 ?_
        refine lv_icmp_ge (tgt := 52) hx hb d_Mo_count_26 (by decide) (fun c_12 => ?_) (fun c_12 => ?_)
        · rw [if_pos c_12] at h
          exact K52 v2_21 v3_21 gMo_21 H locs ls hP hD hS (lv_sub hl [0, 1, 2, 3] rfl) h
        · rw [if_neg c_12] at h
          refine lv_aload_n hx hb d_Mo_count_29 rfl (lv_at hl 0 rfl) ?_
          refine va_get (ci := 8) (v := .ref (xMo 13)) (C := R_Mo) (T := F_Mo) (N := 31) hx hb hts i_Mo hown hK hP 0 rfl rfl 20 (by decide) (hts _ m_724) (fun _ h9 => h9) rfl d_Mo_count_30 ?_
          refine lv_iload_n hx hb d_Mo_count_33 rfl (lv_at hl 3 rfl) ?_
          obtain ⟨hi_13, h⟩ := gb_i h
          refine va_zald hx hb hK hP 13 1 rfl rfl (inb_in hi_13) d_Mo_count_34 ?_
          obtain ⟨x_14, ex_14, h⟩ := letb_i h
          refine lv_topn ex_14 ?_
          have K45 : ∀ (s0_45 : Int32) (v2_45 : Int32) (v3_45 : Int32) (gMo_45 : St) (H : Heap) (locs : List Loc) (ls : Array Slot), va_P D vwCl (wMo xMo cI cZ gMo_45) H → va_D A (wMo xMo cI cZ gMo_45) → va_S A s.heap H locs → lv_has ls 4 [(0, .ref (xMo 0)), (1, .int p1), (2, .int v2_45), (3, .int v3_45)] → f_Mo_count_J45 kc_21 s0_45 v2_45 v3_45 gMo_45 = some (r, gMo1) → W p l e rm_Mo_count_r s m args below meth c H locs 0 0 Q (F0 m 45 ls [.int s0_45]) := by
            intro s0_45 v2_45 v3_45 gMo_45 H locs ls hP hD hS hl h
            unfold f_Mo_count_J45 at h
            refine lv_istore_n (lv' := [(2, .int s0_45), (0, .ref (xMo 0)), (1, .int p1), (3, .int v3_45)]) hx hb d_Mo_count_45 rfl hl (by decide) rfl (fun ls hl => ?_)
            obtain ⟨x_15, ex_15, h⟩ := letb_i h
            refine lv_iinc (v := x_15) (lv' := [(3, .int x_15), (2, .int s0_45), (0, .ref (xMo 0)), (1, .int p1)]) hx hb d_Mo_count_46 hl (k := 3) rfl (by rw [ex_15]; rfl) (by decide) rfl (fun ls hl => ?_)
            refine lv_goto (tgt := 21) hx hb d_Mo_count_49 (by decide) ?_
            exact ih s0_45 x_15 gMo_45 H locs ls hP hD hS (lv_sub hl [2, 3, 1, 0] rfl) h
          refine lv_if_eq (tgt := 44) hx hb d_Mo_count_35 (by decide) (fun c_16 => ?_) (fun c_16 => ?_)
          · rw [if_pos c_16] at h
            refine lv_iload_n hx hb d_Mo_count_44 rfl (lv_at hl 2 rfl) ?_
            exact K45 v2_21 v2_21 v3_21 gMo_21 H locs ls hP hD hS (lv_sub hl [0, 1, 2, 3] rfl) h
          · rw [if_neg c_16] at h
            refine lv_iload_n hx hb d_Mo_count_38 rfl (lv_at hl 2 rfl) ?_
            refine lv_iconst (v := 1) hx hb d_Mo_count_39 (by decide) ?_
            refine lv_iadd hx hb d_Mo_count_40 ?_
            refine lv_goto (tgt := 45) hx hb d_Mo_count_41 (by decide) ?_
            exact K45 (v2_21 + 1) v2_21 v3_21 gMo_21 H locs ls hP hD hS (lv_sub hl [0, 1, 2, 3] rfl) h
    exact K21 FU 0 0 gMo_4 H locs ls hP hD hS (lv_sub hl [2, 3, 1, 0] rfl) h
  · rw [if_pos c_6] at h
    refine lv_iconst (v := 0) hx hb d_Mo_count_15 (by decide) ?_
    cases h
    rw [hQ]
    exact mi_ret C0 hr rfl hlk hP hD hS d_Mo_count_16
