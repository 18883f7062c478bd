abbrev rm_Jo_plan_r : Room := { frames := 1, cells := 0, slots := 0, locals := 22 }
set_option maxRecDepth 100000 in
set_option maxHeartbeats 4000000 in
theorem c_Jo_plan_r (l : Launch) (D : va_G) (cI cZ cJ : ClassId) (xJo : Nat → Nat) (sz : Nat) (gJo : St) (p1 : Int32) (p2 : Int32) (r : Int32) (gJo1 : St) (h : f_Jo_plan gJo p1 p2 = some (.inl (r, gJo1))) : MI l y_Jo_plan b_Jo_plan 6 (some .int) rm_Jo_plan_r D (TYS cI cZ cJ) [.ref (xJo 0), .int p1, .int p2] (wJo xJo cI cZ gJo) sz r (wJo xJo cI cZ gJo1) := by
  refine mi_start (own := R_Jo) (by decide +kernel) rfl (Nat.le_of_ble_eq_true rfl) (fun p e s m args below meth c A ls C0 hr hlk hP hD hS hl => ?_)
  obtain ⟨Q, hQ⟩ : ∃ Q, Q = QI below D (TYS cI cZ cJ) A (wJo xJo cI cZ gJo1) r args s := ⟨_, rfl⟩
  rw [← hQ]
  obtain ⟨hx, hb, -, hown, hts, hK, hE, -⟩ := id C0
  have hl : lv_has ls 6 [(0, .ref (xJo 0)), (1, .int p1), (2, .int p2)] := hl
  obtain ⟨H, hH⟩ : ∃ H, H = s.heap := ⟨_, rfl⟩
  have hP : va_P D vwCl (wJo xJo cI cZ gJo) H := by rw [hH]; exact hP
  have hS : va_S A s.heap H [] := by rw [hH]; exact hS
  rw [show W p l e rm_Jo_plan_r s m args below meth c s.heap = W p l e rm_Jo_plan_r s m args below meth c H by rw [hH]]
  generalize ([] : List Loc) = locs at hS ⊢
  unfold f_Jo_plan at h
  refine lv_iload_n hx hb d_Jo_plan_0 rfl (lv_at hl 1 rfl) ?_
  refine lv_iconst (v := 0) hx hb d_Jo_plan_1 (by decide) ?_
  refine lv_ldc hx hb hown (hts _ m_671) d_Jo_plan_2 ?_
  obtain ⟨hc_1, h⟩ | ⟨E9, hc_1, h⟩ := xc0_i h
  rotate_left
  · cases h
  refine cNv (ws' := (wJo xJo cI cZ gJo)) (As := [.int p1, .int 0, .int 65536]) (rest := []) C0 hP hD hS hl.1 [] (c_Cc_requireRange_r l D cI cZ cJ  H.size p1 0 65536 hc_1) k_Cc_requireRange (List.mem_of_getElem? (i := 15) rfl) rfl rfl rfl (rp_same rfl) ⟨by decide, by decide⟩ ⟨rfl, rfl⟩ rfl (Nat.le_of_ble_eq_true rfl) d_Jo_plan_4 ⟨Nat.zero_le _, Nat.zero_le _⟩ (fun H locs hP hD hS => ?_)
  refine lv_iload_n hx hb d_Jo_plan_7 rfl (lv_at hl 2 rfl) ?_
  refine lv_iconst (v := 1) hx hb d_Jo_plan_8 (by decide) ?_
  refine lv_bipush (v := 50) hx hb d_Jo_plan_9 (by decide) ?_
  obtain ⟨hc_2, h⟩ | ⟨E9, hc_2, h⟩ := xc0_i h
  rotate_left
  · cases h
  refine cNv (ws' := (wJo xJo cI cZ gJo)) (As := [.int p2, .int 1, .int 50]) (rest := []) C0 hP hD hS hl.1 [] (c_Cc_requireRange_r l D cI cZ cJ  H.size p2 1 50 hc_2) k_Cc_requireRange (List.mem_of_getElem? (i := 15) rfl) rfl rfl rfl (rp_same rfl) ⟨by decide, by decide⟩ ⟨rfl, rfl⟩ rfl (Nat.le_of_ble_eq_true rfl) d_Jo_plan_11 ⟨Nat.zero_le _, Nat.zero_le _⟩ (fun H locs hP hD hS => ?_)
  refine lv_iload_n hx hb d_Jo_plan_14 rfl (lv_at hl 1 rfl) ?_
  refine lv_istore_n (lv' := [(3, .int p1), (0, .ref (xJo 0)), (1, .int p1), (2, .int p2)]) hx hb d_Jo_plan_15 rfl hl (by decide) rfl (fun ls hl => ?_)
  refine lv_iconst (v := 0) hx hb d_Jo_plan_16 (by decide) ?_
  refine lv_istore (lv' := [(4, .int 0), (3, .int p1), (0, .ref (xJo 0)), (1, .int p1), (2, .int p2)]) hx hb d_Jo_plan_17 hl (by decide) rfl (fun ls hl => ?_)
  refine lv_iconst (v := 0) hx hb d_Jo_plan_19 (by decide) ?_
  refine lv_istore (lv' := [(5, .int 0), (4, .int 0), (3, .int p1), (0, .ref (xJo 0)), (1, .int p1), (2, .int p2)]) hx hb d_Jo_plan_20 hl (by decide) rfl (fun ls hl => ?_)
  have K71 : ∀ (v3_71 : Int32) (v4_71 : Int32) (v5_71 : Int32) (gJo_71 : St) (H : Heap) (locs : List Loc) (ls : Array Slot), va_P D vwCl (wJo xJo cI cZ gJo_71) H → va_D A (wJo xJo cI cZ gJo_71) → va_S A s.heap H locs → lv_has ls 6 [(0, .ref (xJo 0)), (1, .int p1), (2, .int p2), (3, .int v3_71), (4, .int v4_71), (5, .int v5_71)] → f_Jo_plan_X71 p2 v3_71 v4_71 v5_71 gJo_71 = some (.inl (r, gJo1)) → W p l e rm_Jo_plan_r s m args below meth c H locs 0 0 Q (F0 m 71 ls []) := by
    intro v3_71 v4_71 v5_71 gJo_71 H locs ls hP hD hS hl h
    unfold f_Jo_plan_X71 at h
    refine lv_aload_n hx hb d_Jo_plan_71 rfl (lv_at hl 0 rfl) ?_
    refine lv_iload_n hx hb d_Jo_plan_72 rfl (lv_at hl 2 rfl) ?_
    refine va_put (ci := 3) (v := .int p2) (ty := .int) (C := R_Jo) (T := F_Jo) (N := 2) hx hb hts i_Jo t_Jo o_Jo n_Jo hown hK hP hD hS 0 rfl rfl 1 (by decide) (hts _ m_200) (fun _ h9 => h9) rfl (by decide +kernel) rfl rfl (Nat.le_of_ble_eq_true rfl) d_Jo_plan_73 (fun H locs hP hD hS => ?_)
    obtain ⟨gJo_3, egJo_3, h⟩ := letb_i h
    have hP : va_P D vwCl (wJo xJo cI cZ gJo_3) H := by rw [egJo_3, u_Jo_0_1]; exact hP
    have hD : va_D A (wJo xJo cI cZ gJo_3) := by rw [egJo_3, u_Jo_0_1]; exact hD
    refine lv_iload hx hb d_Jo_plan_76 (lv_at hl 4 rfl) ?_
    cases h
    rw [hQ]
    exact mi_ret C0 hr rfl hlk hP hD hS d_Jo_plan_78
  have K22 : ∀ (n : Nat) (v3_22 : Int32) (v4_22 : Int32) (v5_22 : Int32) (gJo_22 : St) (H : Heap) (locs : List Loc) (ls : Array Slot), va_P D vwCl (wJo xJo cI cZ gJo_22) H → va_D A (wJo xJo cI cZ gJo_22) → va_S A s.heap H locs → lv_has ls 6 [(0, .ref (xJo 0)), (1, .int p1), (2, .int p2), (3, .int v3_22), (4, .int v4_22), (5, .int v5_22)] → it4 (f_Jo_plan_L22 p2) n v3_22 v4_22 v5_22 gJo_22 = some (.inl (r, gJo1)) → W p l e rm_Jo_plan_r s m args below meth c H locs 0 0 Q (F0 m 22 ls []) := by
    intro n
    induction n with
    | zero => intro v3_22 v4_22 v5_22 gJo_22 H locs ls hP hD hS hl h; exact (it4_0 h).elim
    | succ n ih =>
      intro v3_22 v4_22 v5_22 gJo_22 H locs ls hP hD hS hl h
      rw [it4_s, f_Jo_plan_L22] at h
      generalize it4 (f_Jo_plan_L22 p2) n = kc_22 at h ih
      refine lv_iload hx hb d_Jo_plan_22 (lv_at hl 5 rfl) ?_
      refine lv_iload_n hx hb d_Jo_plan_24 rfl (lv_at hl 2 rfl) ?_
      refine lv_icmp_ge (tgt := 71) hx hb d_Jo_plan_25 (by decide) (fun c_4 => ?_) (fun c_4 => ?_)
      · rw [if_pos c_4] at h
        exact K71 v3_22 v4_22 v5_22 gJo_22 H locs ls hP hD hS (lv_sub hl [0, 1, 2, 3, 4, 5] rfl) h
      · rw [if_neg c_4] at h
        refine lv_iload_n hx hb d_Jo_plan_28 rfl (lv_at hl 3 rfl) ?_
        refine lv_bipush (v := 75) hx hb d_Jo_plan_29 (by decide) ?_
        refine lv_imul hx hb d_Jo_plan_31 ?_
        refine lv_bipush (v := 74) hx hb d_Jo_plan_32 (by decide) ?_
        refine lv_iadd hx hb d_Jo_plan_34 ?_
        refine lv_ldc hx hb hown (hts _ m_673) d_Jo_plan_35 ?_
        refine lv_irem hx hb d_Jo_plan_37 (by decide) ?_
        obtain ⟨x_5, ex_5, h⟩ := letb_i h
        refine lv_topn ex_5 ?_
        refine lv_istore_n (lv' := [(3, .int x_5), (0, .ref (xJo 0)), (1, .int p1), (2, .int p2), (4, .int v4_22), (5, .int v5_22)]) hx hb d_Jo_plan_38 rfl hl (by decide) rfl (fun ls hl => ?_)
        refine lv_aload_n hx hb d_Jo_plan_39 rfl (lv_at hl 1 rfl) ?_
        refine va_get (ci := 3) (v := .ref (xJo 1)) (C := R_Jo) (T := F_Jo) (N := 2) hx hb hts i_Jo hown hK hP 0 rfl rfl 0 (by decide) (hts _ m_199) (fun _ h9 => h9) rfl d_Jo_plan_40 ?_
        refine lv_iload hx hb d_Jo_plan_43 (lv_at hl 5 rfl) ?_
        refine lv_bipush (v := 10) hx hb d_Jo_plan_45 (by decide) ?_
        refine lv_iload_n hx hb d_Jo_plan_47 rfl (lv_at hl 0 rfl) ?_
        refine lv_bipush (v := 91) hx hb d_Jo_plan_48 (by decide) ?_
        refine lv_irem hx hb d_Jo_plan_50 (by decide) ?_
        refine lv_iadd hx hb d_Jo_plan_51 ?_
        obtain ⟨hi_6, h⟩ := gb_i h
        refine va_iast hx hb hK hP hD hS 1 0 rfl rfl (inb_in hi_6) d_Jo_plan_52 (fun H locs hP hD hS => ?_)
        obtain ⟨gJo_7, egJo_7, h⟩ := letb_i h
        have hP : va_P D vwCl (wJo xJo cI cZ gJo_7) H := by rw [egJo_7, u_Jo_1]; exact hP
        have hD : va_D A (wJo xJo cI cZ gJo_7) := by rw [egJo_7, u_Jo_1]; exact hD
        refine lv_iload hx hb d_Jo_plan_53 (lv_at hl 4 rfl) ?_
        refine lv_aload_n hx hb d_Jo_plan_55 rfl (lv_at hl 1 rfl) ?_
        refine va_get (ci := 3) (v := .ref (xJo 1)) (C := R_Jo) (T := F_Jo) (N := 2) hx hb hts i_Jo hown hK hP 0 rfl rfl 0 (by decide) (hts _ m_199) (fun _ h9 => h9) rfl d_Jo_plan_56 ?_
        refine lv_iload hx hb d_Jo_plan_59 (lv_at hl 5 rfl) ?_
        obtain ⟨hi_8, h⟩ := gb_i h
        refine va_iald hx hb hK hP 1 0 rfl rfl (inb_in hi_8) d_Jo_plan_61 ?_
        obtain ⟨x_9, ex_9, h⟩ := letb_i h
        refine lv_topn ex_9 ?_
        refine lv_iadd hx hb d_Jo_plan_62 ?_
        obtain ⟨x_10, ex_10, h⟩ := letb_i h
        refine lv_topn ex_10 ?_
        refine lv_istore (lv' := [(4, .int x_10), (3, .int x_5), (0, .ref (xJo 0)), (1, .int p1), (2, .int p2), (5, .int v5_22)]) hx hb d_Jo_plan_63 hl (by decide) rfl (fun ls hl => ?_)
        obtain ⟨x_11, ex_11, h⟩ := letb_i h
        refine lv_iinc (v := x_11) (lv' := [(5, .int x_11), (4, .int x_10), (3, .int x_5), (0, .ref (xJo 0)), (1, .int p1), (2, .int p2)]) hx hb d_Jo_plan_65 hl (k := 5) rfl (by rw [ex_11]; rfl) (by decide) rfl (fun ls hl => ?_)
        refine lv_goto (tgt := 22) hx hb d_Jo_plan_68 (by decide) ?_
        exact ih x_5 x_10 x_11 gJo_7 H locs ls hP hD hS (lv_sub hl [3, 4, 5, 2, 1, 0] rfl) h
  exact K22 FU p1 0 0 gJo H locs ls hP hD hS (lv_sub hl [3, 4, 5, 2, 1, 0] rfl) h
abbrev rm_Jo_plan_t : Room := { frames := 7, cells := 1, slots := 6, locals := 104 }
set_option maxRecDepth 100000 in
set_option maxHeartbeats 4000000 in
theorem c_Jo_plan_t (l : Launch) (hltr : l.stackTraces = false) (D : va_G) (cI cZ cJ : ClassId) (xJo : Nat → Nat) (sz : Nat) (gJo : St) (p1 : Int32) (p2 : Int32) (E : String) (h : f_Jo_plan gJo p1 p2 = some (.inr E)) : MT l y_Jo_plan b_Jo_plan 6 (some .int) rm_Jo_plan_t D (TYS cI cZ cJ) [.ref (xJo 0), .int p1, .int p2] (wJo xJo cI cZ gJo) sz E := by
  refine mt_start (own := R_Jo) (by decide +kernel) rfl (Nat.le_of_ble_eq_true rfl) (fun p e s m args below meth c A ls C0 hAe hno hlk hP hD hS hl => ?_)
  obtain ⟨Q, hQ⟩ : ∃ Q, Q = QT below D (TYS cI cZ cJ) (wJo xJo cI cZ gJo) E args s := ⟨_, rfl⟩
  rw [← hQ]
  obtain ⟨hx, hb, -, hown, hts, hK, hE, -⟩ := id C0
  have hl : lv_has ls 6 [(0, .ref (xJo 0)), (1, .int p1), (2, .int p2)] := hl
  obtain ⟨H, hH⟩ : ∃ H, H = s.heap := ⟨_, rfl⟩
  have hP : va_P D vwCl (wJo xJo cI cZ gJo) H := by rw [hH]; exact hP
  have hS : va_S A s.heap H [] := by rw [hH]; exact hS
  rw [show W p l e rm_Jo_plan_t s m args below meth c s.heap = W p l e rm_Jo_plan_t s m args below meth c H by rw [hH]]
  generalize ([] : List Loc) = locs at hS ⊢
  unfold f_Jo_plan at h
  refine lv_iload_n hx hb d_Jo_plan_0 rfl (lv_at hl 1 rfl) ?_
  refine lv_iconst (v := 0) hx hb d_Jo_plan_1 (by decide) ?_
  refine lv_ldc hx hb hown (hts _ m_671) d_Jo_plan_2 ?_
  obtain ⟨hc_1, h⟩ | ⟨E9, hc_1, h⟩ := xc0_i h
  rotate_left
  · cases h
    rw [hQ]
    exact x_out C0 hAe hno hlk hP hD hS [] rfl rfl rfl (rN (As := [.int p1, .int 0, .int 65536]) (rest := []) C0 hP hD hS hl.1 [] (c_Cc_requireRange_t l hltr D cI cZ cJ  H.size p1 0 65536 E hc_1) k_Cc_requireRange (List.mem_of_getElem? (i := 15) rfl) rfl rfl ⟨by decide, by decide⟩ ⟨rfl, rfl⟩ rfl (Nat.le_of_ble_eq_true rfl) d_Jo_plan_4 ⟨by decide, by decide⟩) ⟨rfl, rfl⟩
  refine cNv (ws' := (wJo xJo cI cZ gJo)) (As := [.int p1, .int 0, .int 65536]) (rest := []) C0 hP hD hS hl.1 [] (c_Cc_requireRange_r l D cI cZ cJ  H.size p1 0 65536 hc_1) k_Cc_requireRange (List.mem_of_getElem? (i := 15) rfl) rfl rfl rfl (rp_same rfl) ⟨by decide, by decide⟩ ⟨rfl, rfl⟩ rfl (Nat.le_of_ble_eq_true rfl) d_Jo_plan_4 ⟨Nat.zero_le _, Nat.zero_le _⟩ (fun H locs hP hD hS => ?_)
  refine lv_iload_n hx hb d_Jo_plan_7 rfl (lv_at hl 2 rfl) ?_
  refine lv_iconst (v := 1) hx hb d_Jo_plan_8 (by decide) ?_
  refine lv_bipush (v := 50) hx hb d_Jo_plan_9 (by decide) ?_
  obtain ⟨hc_2, h⟩ | ⟨E9, hc_2, h⟩ := xc0_i h
  rotate_left
  · cases h
    rw [hQ]
    exact x_out C0 hAe hno hlk hP hD hS [] rfl rfl rfl (rN (As := [.int p2, .int 1, .int 50]) (rest := []) C0 hP hD hS hl.1 [] (c_Cc_requireRange_t l hltr D cI cZ cJ  H.size p2 1 50 E hc_2) k_Cc_requireRange (List.mem_of_getElem? (i := 15) rfl) rfl rfl ⟨by decide, by decide⟩ ⟨rfl, rfl⟩ rfl (Nat.le_of_ble_eq_true rfl) d_Jo_plan_11 ⟨by decide, by decide⟩) ⟨rfl, rfl⟩
  refine cNv (ws' := (wJo xJo cI cZ gJo)) (As := [.int p2, .int 1, .int 50]) (rest := []) C0 hP hD hS hl.1 [] (c_Cc_requireRange_r l D cI cZ cJ  H.size p2 1 50 hc_2) k_Cc_requireRange (List.mem_of_getElem? (i := 15) rfl) rfl rfl rfl (rp_same rfl) ⟨by decide, by decide⟩ ⟨rfl, rfl⟩ rfl (Nat.le_of_ble_eq_true rfl) d_Jo_plan_11 ⟨Nat.zero_le _, Nat.zero_le _⟩ (fun H locs hP hD hS => ?_)
  refine lv_iload_n hx hb d_Jo_plan_14 rfl (lv_at hl 1 rfl) ?_
  refine lv_istore_n (lv' := [(3, .int p1), (0, .ref (xJo 0)), (1, .int p1), (2, .int p2)]) hx hb d_Jo_plan_15 rfl hl (by decide) rfl (fun ls hl => ?_)
  refine lv_iconst (v := 0) hx hb d_Jo_plan_16 (by decide) ?_
  refine lv_istore (lv' := [(4, .int 0), (3, .int p1), (0, .ref (xJo 0)), (1, .int p1), (2, .int p2)]) hx hb d_Jo_plan_17 hl (by decide) rfl (fun ls hl => ?_)
  refine lv_iconst (v := 0) hx hb d_Jo_plan_19 (by decide) ?_
  refine lv_istore (lv' := [(5, .int 0), (4, .int 0), (3, .int p1), (0, .ref (xJo 0)), (1, .int p1), (2, .int p2)]) hx hb d_Jo_plan_20 hl (by decide) rfl (fun ls hl => ?_)
  have K71 : ∀ (v3_71 : Int32) (v4_71 : Int32) (v5_71 : Int32) (gJo_71 : St) (H : Heap) (locs : List Loc) (ls : Array Slot), va_P D vwCl (wJo xJo cI cZ gJo_71) H → va_D A (wJo xJo cI cZ gJo_71) → va_S A s.heap H locs → lv_has ls 6 [(0, .ref (xJo 0)), (1, .int p1), (2, .int p2), (3, .int v3_71), (4, .int v4_71), (5, .int v5_71)] → f_Jo_plan_X71 p2 v3_71 v4_71 v5_71 gJo_71 = some (.inr E) → W p l e rm_Jo_plan_t s m args below meth c H locs 0 0 Q (F0 m 71 ls []) := by
    intro v3_71 v4_71 v5_71 gJo_71 H locs ls hP hD hS hl h
    unfold f_Jo_plan_X71 at h
    refine lv_aload_n hx hb d_Jo_plan_71 rfl (lv_at hl 0 rfl) ?_
    refine lv_iload_n hx hb d_Jo_plan_72 rfl (lv_at hl 2 rfl) ?_
    refine va_put (ci := 3) (v := .int p2) (ty := .int) (C := R_Jo) (T := F_Jo) (N := 2) hx hb hts i_Jo t_Jo o_Jo n_Jo hown hK hP hD hS 0 rfl rfl 1 (by decide) (hts _ m_200) (fun _ h9 => h9) rfl (by decide +kernel) rfl rfl (Nat.le_of_ble_eq_true rfl) d_Jo_plan_73 (fun H locs hP hD hS => ?_)
    obtain ⟨gJo_3, egJo_3, h⟩ := letb_i h
    have hP : va_P D vwCl (wJo xJo cI cZ gJo_3) H := by rw [egJo_3, u_Jo_0_1]; exact hP
    have hD : va_D A (wJo xJo cI cZ gJo_3) := by rw [egJo_3, u_Jo_0_1]; exact hD
    refine lv_iload hx hb d_Jo_plan_76 (lv_at hl 4 rfl) ?_
    cases h
  have K22 : ∀ (n : Nat) (v3_22 : Int32) (v4_22 : Int32) (v5_22 : Int32) (gJo_22 : St) (H : Heap) (locs : List Loc) (ls : Array Slot), va_P D vwCl (wJo xJo cI cZ gJo_22) H → va_D A (wJo xJo cI cZ gJo_22) → va_S A s.heap H locs → lv_has ls 6 [(0, .ref (xJo 0)), (1, .int p1), (2, .int p2), (3, .int v3_22), (4, .int v4_22), (5, .int v5_22)] → it4 (f_Jo_plan_L22 p2) n v3_22 v4_22 v5_22 gJo_22 = some (.inr E) → W p l e rm_Jo_plan_t s m args below meth c H locs 0 0 Q (F0 m 22 ls []) := by
    intro n
    induction n with
    | zero => intro v3_22 v4_22 v5_22 gJo_22 H locs ls hP hD hS hl h; exact (it4_0 h).elim
    | succ n ih =>
      intro v3_22 v4_22 v5_22 gJo_22 H locs ls hP hD hS hl h
      rw [it4_s, f_Jo_plan_L22] at h
      generalize it4 (f_Jo_plan_L22 p2) n = kc_22 at h ih
      refine lv_iload hx hb d_Jo_plan_22 (lv_at hl 5 rfl) ?_
      refine lv_iload_n hx hb d_Jo_plan_24 rfl (lv_at hl 2 rfl) ?_
      refine lv_icmp_ge (tgt := 71) hx hb d_Jo_plan_25 (by decide) (fun c_4 => ?_) (fun c_4 => ?_)
      · rw [if_pos c_4] at h
        exact K71 v3_22 v4_22 v5_22 gJo_22 H locs ls hP hD hS (lv_sub hl [0, 1, 2, 3, 4, 5] rfl) h
      · rw [if_neg c_4] at h
        refine lv_iload_n hx hb d_Jo_plan_28 rfl (lv_at hl 3 rfl) ?_
        refine lv_bipush (v := 75) hx hb d_Jo_plan_29 (by decide) ?_
        refine lv_imul hx hb d_Jo_plan_31 ?_
        refine lv_bipush (v := 74) hx hb d_Jo_plan_32 (by decide) ?_
        refine lv_iadd hx hb d_Jo_plan_34 ?_
        refine lv_ldc hx hb hown (hts _ m_673) d_Jo_plan_35 ?_
        refine lv_irem hx hb d_Jo_plan_37 (by decide) ?_
        obtain ⟨x_5, ex_5, h⟩ := letb_i h
        refine lv_topn ex_5 ?_
        refine lv_istore_n (lv' := [(3, .int x_5), (0, .ref (xJo 0)), (1, .int p1), (2, .int p2), (4, .int v4_22), (5, .int v5_22)]) hx hb d_Jo_plan_38 rfl hl (by decide) rfl (fun ls hl => ?_)
        refine lv_aload_n hx hb d_Jo_plan_39 rfl (lv_at hl 1 rfl) ?_
        refine va_get (ci := 3) (v := .ref (xJo 1)) (C := R_Jo) (T := F_Jo) (N := 2) hx hb hts i_Jo hown hK hP 0 rfl rfl 0 (by decide) (hts _ m_199) (fun _ h9 => h9) rfl d_Jo_plan_40 ?_
        refine lv_iload hx hb d_Jo_plan_43 (lv_at hl 5 rfl) ?_
        refine lv_bipush (v := 10) hx hb d_Jo_plan_45 (by decide) ?_
        refine lv_iload_n hx hb d_Jo_plan_47 rfl (lv_at hl 0 rfl) ?_
        refine lv_bipush (v := 91) hx hb d_Jo_plan_48 (by decide) ?_
        refine lv_irem hx hb d_Jo_plan_50 (by decide) ?_
        refine lv_iadd hx hb d_Jo_plan_51 ?_
        obtain ⟨hi_6, h⟩ := gb_i h
        refine va_iast hx hb hK hP hD hS 1 0 rfl rfl (inb_in hi_6) d_Jo_plan_52 (fun H locs hP hD hS => ?_)
        obtain ⟨gJo_7, egJo_7, h⟩ := letb_i h
        have hP : va_P D vwCl (wJo xJo cI cZ gJo_7) H := by rw [egJo_7, u_Jo_1]; exact hP
        have hD : va_D A (wJo xJo cI cZ gJo_7) := by rw [egJo_7, u_Jo_1]; exact hD
        refine lv_iload hx hb d_Jo_plan_53 (lv_at hl 4 rfl) ?_
        refine lv_aload_n hx hb d_Jo_plan_55 rfl (lv_at hl 1 rfl) ?_
        refine va_get (ci := 3) (v := .ref (xJo 1)) (C := R_Jo) (T := F_Jo) (N := 2) hx hb hts i_Jo hown hK hP 0 rfl rfl 0 (by decide) (hts _ m_199) (fun _ h9 => h9) rfl d_Jo_plan_56 ?_
        refine lv_iload hx hb d_Jo_plan_59 (lv_at hl 5 rfl) ?_
        obtain ⟨hi_8, h⟩ := gb_i h
        refine va_iald hx hb hK hP 1 0 rfl rfl (inb_in hi_8) d_Jo_plan_61 ?_
        obtain ⟨x_9, ex_9, h⟩ := letb_i h
        refine lv_topn ex_9 ?_
        refine lv_iadd hx hb d_Jo_plan_62 ?_
        obtain ⟨x_10, ex_10, h⟩ := letb_i h
        refine lv_topn ex_10 ?_
        refine lv_istore (lv' := [(4, .int x_10), (3, .int x_5), (0, .ref (xJo 0)), (1, .int p1), (2, .int p2), (5, .int v5_22)]) hx hb d_Jo_plan_63 hl (by decide) rfl (fun ls hl => ?_)
        obtain ⟨x_11, ex_11, h⟩ := letb_i h
        refine lv_iinc (v := x_11) (lv' := [(5, .int x_11), (4, .int x_10), (3, .int x_5), (0, .ref (xJo 0)), (1, .int p1), (2, .int p2)]) hx hb d_Jo_plan_65 hl (k := 5) rfl (by rw [ex_11]; rfl) (by decide) rfl (fun ls hl => ?_)
        refine lv_goto (tgt := 22) hx hb d_Jo_plan_68 (by decide) ?_
        exact ih x_5 x_10 x_11 gJo_7 H locs ls hP hD hS (lv_sub hl [3, 4, 5, 2, 1, 0] rfl) h
  exact K22 FU p1 0 0 gJo H locs ls hP hD hS (lv_sub hl [3, 4, 5, 2, 1, 0] rfl) h
abbrev rm_Jo_dropOf_r : Room := { frames := 1, cells := 0, slots := 0, locals := 21 }
set_option maxRecDepth 100000 in
set_option maxHeartbeats 4000000 in
theorem c_Jo_dropOf_r (l : Launch) (D : va_G) (cI cZ cJ : ClassId) (xJo : Nat → Nat) (sz : Nat) (gJo : St) (p1 : Int32) (r : Int32) (h : f_Jo_dropOf gJo p1 = some (.inl r)) : MI l y_Jo_dropOf b_Jo_dropOf 2 (some .int) rm_Jo_dropOf_r D (TYS cI cZ cJ) [.ref (xJo 0), .int p1] (wJo xJo cI cZ gJo) sz r (wJo xJo cI cZ gJo) := by
  refine mi_start (own := R_Jo) (by decide +kernel) rfl (Nat.le_of_ble_eq_true rfl) (fun p e s m args below meth c A ls C0 hr hlk hP hD hS hl => ?_)
  obtain ⟨Q, hQ⟩ : ∃ Q, Q = QI below D (TYS cI cZ cJ) A (wJo xJo cI cZ gJo) r args s := ⟨_, rfl⟩
  rw [← hQ]
  obtain ⟨hx, hb, -, hown, hts, hK, hE, -⟩ := id C0
  have hl : lv_has ls 2 [(0, .ref (xJo 0)), (1, .int p1)] := hl
  obtain ⟨H, hH⟩ : ∃ H, H = s.heap := ⟨_, rfl⟩
  have hP : va_P D vwCl (wJo xJo cI cZ gJo) H := by rw [hH]; exact hP
  have hS : va_S A s.heap H [] := by rw [hH]; exact hS
  rw [show W p l e rm_Jo_dropOf_r s m args below meth c s.heap = W p l e rm_Jo_dropOf_r s m args below meth c H by rw [hH]]
  generalize ([] : List Loc) = locs at hS ⊢
  unfold f_Jo_dropOf at h
  refine lv_iload_n hx hb d_Jo_dropOf_0 rfl (lv_at hl 1 rfl) ?_
  refine lv_aload_n hx hb d_Jo_dropOf_1 rfl (lv_at hl 0 rfl) ?_
  refine va_get (ci := 3) (v := .int (gJo 0 1)) (C := R_Jo) (T := F_Jo) (N := 2) hx hb hts i_Jo hown hK hP 0 rfl rfl 1 (by decide) (hts _ m_200) (fun _ h9 => h9) rfl d_Jo_dropOf_2 ?_
  obtain ⟨hc_1, h⟩ | ⟨E9, hc_1, h⟩ := xc0_i h
  rotate_left
  · cases h
  refine cNv (ws' := (wJo xJo cI cZ gJo)) (As := [.int p1, .int (gJo 0 1)]) (rest := []) C0 hP hD hS hl.1 [] (c_Cc_requireIndex_r l D cI cZ cJ  H.size p1 (gJo 0 1) hc_1) k_Cc_requireIndex (List.mem_of_getElem? (i := 16) rfl) rfl rfl rfl (rp_same rfl) ⟨by decide, by decide⟩ ⟨rfl, rfl⟩ rfl (Nat.le_of_ble_eq_true rfl) d_Jo_dropOf_5 ⟨Nat.zero_le _, Nat.zero_le _⟩ (fun H locs hP hD hS => ?_)
  refine lv_aload_n hx hb d_Jo_dropOf_8 rfl (lv_at hl 0 rfl) ?_
  refine va_get (ci := 3) (v := .ref (xJo 1)) (C := R_Jo) (T := F_Jo) (N := 2) hx hb hts i_Jo hown hK hP 0 rfl rfl 0 (by decide) (hts _ m_199) (fun _ h9 => h9) rfl d_Jo_dropOf_9 ?_
  refine lv_iload_n hx hb d_Jo_dropOf_12 rfl (lv_at hl 1 rfl) ?_
  obtain ⟨hi_2, h⟩ := gb_i h
  refine va_iald hx hb hK hP 1 0 rfl rfl (inb_in hi_2) d_Jo_dropOf_13 ?_
  obtain ⟨x_3, ex_3, h⟩ := letb_i h
  refine lv_topn ex_3 ?_
  cases h
  rw [hQ]
  exact mi_ret C0 hr rfl hlk hP hD hS d_Jo_dropOf_14
abbrev rm_Jo_dropOf_t : Room := { frames := 7, cells := 1, slots := 6, locals := 103 }
set_option maxRecDepth 100000 in
set_option maxHeartbeats 4000000 in
theorem c_Jo_dropOf_t (l : Launch) (hltr : l.stackTraces = false) (D : va_G) (cI cZ cJ : ClassId) (xJo : Nat → Nat) (sz : Nat) (gJo : St) (p1 : Int32) (E : String) (h : f_Jo_dropOf gJo p1 = some (.inr E)) : MT l y_Jo_dropOf b_Jo_dropOf 2 (some .int) rm_Jo_dropOf_t D (TYS cI cZ cJ) [.ref (xJo 0), .int p1] (wJo xJo cI cZ gJo) sz E := by
  refine mt_start (own := R_Jo) (by decide +kernel) rfl (Nat.le_of_ble_eq_true rfl) (fun p e s m args below meth c A ls C0 hAe hno hlk hP hD hS hl => ?_)
  obtain ⟨Q, hQ⟩ : ∃ Q, Q = QT below D (TYS cI cZ cJ) (wJo xJo cI cZ gJo) E args s := ⟨_, rfl⟩
  rw [← hQ]
  obtain ⟨hx, hb, -, hown, hts, hK, hE, -⟩ := id C0
  have hl : lv_has ls 2 [(0, .ref (xJo 0)), (1, .int p1)] := hl
  obtain ⟨H, hH⟩ : ∃ H, H = s.heap := ⟨_, rfl⟩
  have hP : va_P D vwCl (wJo xJo cI cZ gJo) H := by rw [hH]; exact hP
  have hS : va_S A s.heap H [] := by rw [hH]; exact hS
  rw [show W p l e rm_Jo_dropOf_t s m args below meth c s.heap = W p l e rm_Jo_dropOf_t s m args below meth c H by rw [hH]]
  generalize ([] : List Loc) = locs at hS ⊢
  unfold f_Jo_dropOf at h
  refine lv_iload_n hx hb d_Jo_dropOf_0 rfl (lv_at hl 1 rfl) ?_
  refine lv_aload_n hx hb d_Jo_dropOf_1 rfl (lv_at hl 0 rfl) ?_
  refine va_get (ci := 3) (v := .int (gJo 0 1)) (C := R_Jo) (T := F_Jo) (N := 2) hx hb hts i_Jo hown hK hP 0 rfl rfl 1 (by decide) (hts _ m_200) (fun _ h9 => h9) rfl d_Jo_dropOf_2 ?_
  obtain ⟨hc_1, h⟩ | ⟨E9, hc_1, h⟩ := xc0_i h
  rotate_left
  · cases h
    rw [hQ]
    exact x_out C0 hAe hno hlk hP hD hS [] rfl rfl rfl (rN (As := [.int p1, .int (gJo 0 1)]) (rest := []) C0 hP hD hS hl.1 [] (c_Cc_requireIndex_t l hltr D cI cZ cJ  H.size p1 (gJo 0 1) E hc_1) k_Cc_requireIndex (List.mem_of_getElem? (i := 16) rfl) rfl rfl ⟨by decide, by decide⟩ ⟨rfl, rfl⟩ rfl (Nat.le_of_ble_eq_true rfl) d_Jo_dropOf_5 ⟨by decide, by decide⟩) ⟨rfl, rfl⟩
  refine cNv (ws' := (wJo xJo cI cZ gJo)) (As := [.int p1, .int (gJo 0 1)]) (rest := []) C0 hP hD hS hl.1 [] (c_Cc_requireIndex_r l D cI cZ cJ  H.size p1 (gJo 0 1) hc_1) k_Cc_requireIndex (List.mem_of_getElem? (i := 16) rfl) rfl rfl rfl (rp_same rfl) ⟨by decide, by decide⟩ ⟨rfl, rfl⟩ rfl (Nat.le_of_ble_eq_true rfl) d_Jo_dropOf_5 ⟨Nat.zero_le _, Nat.zero_le _⟩ (fun H locs hP hD hS => ?_)
  refine lv_aload_n hx hb d_Jo_dropOf_8 rfl (lv_at hl 0 rfl) ?_
  refine va_get (ci := 3) (v := .ref (xJo 1)) (C := R_Jo) (T := F_Jo) (N := 2) hx hb hts i_Jo hown hK hP 0 rfl rfl 0 (by decide) (hts _ m_199) (fun _ h9 => h9) rfl d_Jo_dropOf_9 ?_
  refine lv_iload_n hx hb d_Jo_dropOf_12 rfl (lv_at hl 1 rfl) ?_
  obtain ⟨hi_2, h⟩ := gb_i h
  refine va_iald hx hb hK hP 1 0 rfl rfl (inb_in hi_2) d_Jo_dropOf_13 ?_
  obtain ⟨x_3, ex_3, h⟩ := letb_i h
  refine lv_topn ex_3 ?_
  cases h
