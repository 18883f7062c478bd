/-- a boolean as the law keeps it -/
def bz (r : Int32) : Int64 := if r = 0 then 0 else 1
section WRAPS
variable {p : Program} {l : Launch} {e : Env} {R : Room} {s : State} {m : MethodId} {args : Array Value} {below : List Frame} {meth : Method} {c : Code} {H : Heap} {locs : List Loc} {cells slots : Nat} {Q : State → Prop}
variable {own : String} {cc b : ByteArray} {nL n index pc sz : Nat} {rm : Room} {D : va_G} {ty : List (ClassId × FieldType)} {A : Nat → Prop} {y : MethodName} {av As rest st0 : List Value} {ls : Array Slot} {ws w1 wc w0 ws' : va_W} {r : Int32} {E : String} {hh : List (Nat × Nat × Nat × Nat)} {k : Nat}
/-- a method with handlers: it returns r -/
def MW (l : Launch) (y : MethodName) (b : ByteArray) (n : Nat) (hh : List (Nat × Nat × Nat × Nat)) (rm : Room) (D : va_G) (ty : List (ClassId × FieldType)) (av : List Value) (ws : va_W) (sz : Nat) (r : Int32) (w1 : va_W) : Prop :=
  Met l y (.codeWith y b n (some .int) hh :: WL) rm (cPc D ty av ws sz) (va_Qi (fun (r' : Int32) (_ : Unit) => r' = r) (fun _ t => cB D ty (va_A ws sz) w1 t) (va_A ws sz)) 1 6 (va_A ws sz)
def QW (below : List Frame) (D : va_G) (ty : List (ClassId × FieldType)) (A : Nat → Prop) (w1 : va_W) (r : Int32) (args : Array Value) (s : State) : State → Prop := MQ below (va_Qi (fun (r' : Int32) (_ : Unit) => r' = r) (fun _ t => cB D ty A w1 t) A) args s 1 6 A
theorem mw_start (hy : plainName y.cls = true) (ho : y.cls = own) (hn : (lg_sl av).length ≤ n)
    (body : ∀ (p : Program) (e : Env) (s : State) (m : MethodId) (args : Array Value) (below : List Frame) (meth : Method) (c : Code) (A : Nat → Prop) (ls : Array Slot), CX p s m args c own b n D ty A → meth.sig.returnType = some .int → meth.locks = false → c.exceptionTable.toList = tableOf hh → va_P D vwCl ws s.heap → va_D A ws → va_S A s.heap s.heap [] → lv_has ls n (lv_args 0 av) → W p l e rm s m args below meth c s.heap [] 0 0 (QW below D ty A w1 r args s) (F0 m 0 ls [])) : MW l y b n hh rm D ty av ws sz r w1 := by
  refine va_MetW (cc := b) (maxL := n) (ret := some .int) (hh := hh) hy rfl ?_
  intro p e s m args below meth c s₁ B hml hv
  obtain ⟨rfl, hsz, hP, hK, hD0, hE⟩ := hv
  have hts := atoms_spec (ws := Cond.codeWith y b n (some .int) hh :: WL) B.pre
  have hown : s.vm.findClass own = some m.cls := by rw [← ho]; exact findClass_of_methodNamed B.named
  have htb := vx_table (x := y) B (hts _ List.mem_cons_self)
  subst hsz
  have hD := hD0.self (sz := s.heap.size)
  have hA : ∀ q : Nat, s.heap.size ≤ q → va_A ws s.heap.size q := fun q h => Or.inr h
  have hl := lv_entry av (n := n) hn
  rw [lg_entry_eq]
  exact body p e s m _ below meth c _ _ ⟨B.exec, B.bytes, hml, hown, fun w hw => hts w (List.mem_cons_of_mem _ hw), hK, hE, hA⟩ B.returns B.notSynchronized htb hP hD va_S.rf hl
theorem mw_ret (C0 : CX p s m args c own cc nL D ty A) (hr : meth.sig.returnType = some .int) (hlk : meth.locks = false) (hP : va_P D vwCl w1 H) (hD : va_D A w1) (hS : va_S A s.heap H locs) (hc : cells ≤ 1) (hs : slots ≤ 6) (hdg : decode cc pc = .ok (.ireturn, 1)) : W p l e R s m args below meth c H locs cells slots (QW below D ty A w1 r args s) (F0 m pc ls [.int r]) :=
  W.widen (k := 1) (n := 6) hc hs (W.zret C0.1 C0.2.1 hr rfl (fun t ht hW => ⟨⟨r, (), rfl, rfl, by rw [ht]; exact hP, va_K.moved hW.alike C0.2.2.2.2.2.1, hD⟩, hS.F ht⟩) hS.2.2 hdg hlk)
/-- what a call throws is caught here -/
theorem x_got (C0 : CX p s m args c own cc nL D ty A) (hP : va_P D vwCl w0 H) (hD : va_D A w0) (hS : va_S A s.heap H locs) (isC : List Nat) (hC : isC.map (fun i => w0[i]?) = wc.map some) (hn : va_nd isC = true) (hB : rp w0 isC wc = w0)
    (hr : vx_Run p l e R s m args below meth c H locs 0 0 1 6 (F0 m pc ls st0) rest (fun _ _ _ => False) (XE D ty wc H.size E) (va_A wc H.size))
    (pre : List ExceptionTableEntry) (x : ExceptionTableEntry) (suf : List ExceptionTableEntry) (hsplit : c.exceptionTable.toList = pre ++ x :: suf) (hpass : ∀ z ∈ pre, z.catchType ≠ 0 ∧ ∃ nm : String, Cond.classLink own z.catchType nm ∈ WL ∧ (E, nm) ∈ NNc) (hx : covers x pc = true) (h0 : x.catchType ≠ 0) (hlink : Cond.classLink own x.catchType E ∈ WL) (hE : E ∈ NCa)
    (kk : ∀ (q9 : Nat) (H1 : Heap) (locs1 : List Loc), va_P D vwCl w0 H1 → va_D A w0 → va_S A s.heap H1 locs1 → W p l e R s m args below meth c H1 locs1 1 6 Q (F0 m x.handlerPc ls [.ref q9])) : W p l e R s m args below meth c H locs 0 0 Q (F0 m pc ls st0) := by
  have hFc := c_free C0 hD hS isC hC
  have hts := C0.2.2.2.2.1
  have hEV := C0.2.2.2.2.2.2.1
  refine x_row hr hS hFc (fun q _ h => hFc q h) (fun E' ce q9 u t H1 locs1 ht hvm hpx hb hz hk hS1 hce hcv hcl => ?_)
  obtain ⟨rfl, hb⟩ := hb
  obtain ⟨hP2, hD2⟩ := c_kk C0 hP hD hS isC hC hn rfl ht hb hk
  rw [hB] at hP2 hD2
  refine vx_catch C0.2.2.2.1 pre x suf hsplit (fun z hz => ?_) hx h0 (hts _ hlink) (va_Nw.use rfl (hEV.2.2.1 _ hE)) hce hcv hcl (kk q9 H1 locs1 hP2 hD2 hS1)
  obtain ⟨z0, nm, z1, z2⟩ := hpass z hz
  exact Or.inr ⟨z0, nm, hts _ z1, hEV.2.2.2.2.1 _ z2⟩
end WRAPS
theorem rp_pre {a a' b : va_W} {is : List Nat} (hi : is = List.range a.length) (hl : a'.length = a.length) : rp (a ++ b) is a' = a' ++ b := by
  have G := rp_get is a' (a ++ b) (by rw [hi, List.length_range, hl]) (fun i j x h1 h2 => by
    rw [hi] at h1 h2
    obtain ⟨q1, e1⟩ := List.getElem?_eq_some_iff.mp h1
    obtain ⟨q2, e2⟩ := List.getElem?_eq_some_iff.mp h2
    rw [List.getElem_range] at e1 e2
    omega) (fun i h => by rw [hi] at h; have := List.mem_range.mp h; rw [List.length_append]; omega)
  apply List.ext_getElem?
  intro i
  by_cases h : i < a.length
  · rw [(G i).2 i (by rw [hi, List.getElem?_range h]), List.getElem?_append_left (by omega)]
  · rw [(G i).1 (fun h2 => h (by rw [hi] at h2; exact List.mem_range.mp h2)), List.getElem?_append_right (by omega), List.getElem?_append_right (by omega), hl]
theorem C_pre {a b : va_W} {is : List Nat} (hi : is = List.range a.length) : is.map (fun i => (a ++ b)[i]?) = a.map some := by
  subst hi
  apply List.ext_getElem?
  intro i
  by_cases h : i < a.length
  · rw [List.getElem?_map, List.getElem?_range h, List.getElem?_map]
    show some ((a ++ b)[i]?) = _
    rw [List.getElem?_append_left h, List.getElem?_eq_getElem h]
    rfl
  · rw [List.getElem?_eq_none (by simp; omega), List.getElem?_eq_none (by simp; omega)]
theorem rp_suf {a b b' : va_W} {is : List Nat} (hi : is = (List.range b.length).map (fun i => a.length + i)) (hl : b'.length = b.length) : rp (a ++ b) is b' = a ++ b' := by
  have G := rp_get is b' (a ++ b) (by rw [hi, List.length_map, List.length_range, hl]) (fun i j x h1 h2 => by
    rw [hi, List.getElem?_map] at h1 h2
    obtain ⟨y1, e1, f1⟩ := Option.map_eq_some_iff.mp h1
    obtain ⟨y2, e2, f2⟩ := Option.map_eq_some_iff.mp h2
    obtain ⟨q1, e1⟩ := List.getElem?_eq_some_iff.mp e1
    obtain ⟨q2, e2⟩ := List.getElem?_eq_some_iff.mp e2
    rw [List.getElem_range] at e1 e2
    omega) (fun i h => by
    rw [hi] at h
    obtain ⟨z, h1, h2⟩ := List.mem_map.mp h
    have := List.mem_range.mp h1
    rw [List.length_append]; omega)
  apply List.ext_getElem?
  intro i
  by_cases h : i < a.length
  · rw [(G i).1 (fun h2 => by
      rw [hi] at h2
      obtain ⟨z, h1, h2⟩ := List.mem_map.mp h2
      omega), List.getElem?_append_left h, List.getElem?_append_left h]
  · by_cases h2 : i < a.length + b.length
    · rw [(G i).2 (i - a.length) (by
        rw [hi, List.getElem?_map, List.getElem?_range (by omega)]
        show some (a.length + (i - a.length)) = some i
        congr 1
        omega), List.getElem?_append_right (by omega)]
    · rw [(G i).1 (fun h3 => by
        rw [hi] at h3
        obtain ⟨z, h1, h4⟩ := List.mem_map.mp h3
        have := List.mem_range.mp h1
        omega), List.getElem?_eq_none (by rw [List.length_append]; omega), List.getElem?_eq_none (by rw [List.length_append]; omega)]
theorem C_suf {a b : va_W} {is : List Nat} (hi : is = (List.range b.length).map (fun i => a.length + i)) : is.map (fun i => (a ++ b)[i]?) = b.map some := by
  subst hi
  apply List.ext_getElem?
  intro i
  by_cases h : i < b.length
  · rw [List.getElem?_map, List.getElem?_map, List.getElem?_range h, List.getElem?_map]
    show some ((a ++ b)[a.length + i]?) = _
    rw [List.getElem?_append_right (by omega), Nat.add_sub_cancel_left, List.getElem?_eq_getElem h]
    rfl
  · rw [List.getElem?_eq_none (by simp; omega), List.getElem?_eq_none (by simp; omega)]
theorem set_last {a : va_W} {x y : Nat × va_E} {n : Nat} (h : a.length = n) : (a ++ [x]).set n y = a ++ [y] := by
  subst h
  rw [List.set_append_right _ _ (Nat.le_refl _), Nat.sub_self]
  rfl
set_option maxRecDepth 20000 in
theorem cc_C {xCc : Nat} {xGo : Nat → Nat} {xFo : Nat → Nat} {xPk : Nat → Nat} {xSk : Nat → Nat} {xAi : Nat → Nat} {xSh : Nat → Nat} {xJo : Nat → Nat} {xo : Nat} {cI cZ cJ : ClassId} {gGo : St} {gFo : St} {gPk : St} {qPk : Int64} {gSk : St} {gAi : St} {gSh : St} {gJo : St} {q : Nat → Int64} : ([0, 1, 2, 3, 4, 5, 6, 7, 8, 9, 10, 11, 12, 13, 14, 15, 16, 17, 18, 19, 20, 21, 22, 23, 24, 25, 26, 27] : List Nat).map (fun i => (wCc xCc cI cZ xGo xFo xPk xSk xAi xSh xJo gGo gFo gPk qPk gSk gAi gSh gJo ++ ([(xo, .inl (cJ, 1, .inr (.inl q)))] : va_W))[i]?) = (wCc xCc cI cZ xGo xFo xPk xSk xAi xSh xJo gGo gFo gPk qPk gSk gAi gSh gJo).map some := C_pre rfl
theorem cc_w {xCc : Nat} {xGo : Nat → Nat} {xFo : Nat → Nat} {xPk : Nat → Nat} {xSk : Nat → Nat} {xAi : Nat → Nat} {xSh : Nat → Nat} {xJo : Nat → Nat} {cI cZ : ClassId} {gGo : St} {gFo : St} {gPk : St} {qPk : Int64} {gSk : St} {gAi : St} {gSh : St} {gJo : St} {gGo1 : St} {gFo1 : St} {gPk1 : St} {qPk1 : Int64} {gSk1 : St} {gAi1 : St} {gSh1 : St} {gJo1 : St} : (wCc xCc cI cZ xGo xFo xPk xSk xAi xSh xJo gGo1 gFo1 gPk1 qPk1 gSk1 gAi1 gSh1 gJo1).map (fun q => q.1) = (wCc xCc cI cZ xGo xFo xPk xSk xAi xSh xJo gGo gFo gPk qPk gSk gAi gSh gJo).map (fun q => q.1) := rfl
theorem cc_rp {xCc : Nat} {xGo : Nat → Nat} {xFo : Nat → Nat} {xPk : Nat → Nat} {xSk : Nat → Nat} {xAi : Nat → Nat} {xSh : Nat → Nat} {xJo : Nat → Nat} {xo : Nat} {cI cZ cJ : ClassId} {gGo : St} {gFo : St} {gPk : St} {qPk : Int64} {gSk : St} {gAi : St} {gSh : St} {gJo : St} {gGo1 : St} {gFo1 : St} {gPk1 : St} {qPk1 : Int64} {gSk1 : St} {gAi1 : St} {gSh1 : St} {gJo1 : St} {q : Nat → Int64} : rp (wCc xCc cI cZ xGo xFo xPk xSk xAi xSh xJo gGo gFo gPk qPk gSk gAi gSh gJo ++ ([(xo, .inl (cJ, 1, .inr (.inl q)))] : va_W)) [0, 1, 2, 3, 4, 5, 6, 7, 8, 9, 10, 11, 12, 13, 14, 15, 16, 17, 18, 19, 20, 21, 22, 23, 24, 25, 26, 27] (wCc xCc cI cZ xGo xFo xPk xSk xAi xSh xJo gGo1 gFo1 gPk1 qPk1 gSk1 gAi1 gSh1 gJo1) = wCc xCc cI cZ xGo xFo xPk xSk xAi xSh xJo gGo1 gFo1 gPk1 qPk1 gSk1 gAi1 gSh1 gJo1 ++ ([(xo, .inl (cJ, 1, .inr (.inl q)))] : va_W) := rp_pre rfl rfl
theorem cc_o {xCc : Nat} {xGo : Nat → Nat} {xFo : Nat → Nat} {xPk : Nat → Nat} {xSk : Nat → Nat} {xAi : Nat → Nat} {xSh : Nat → Nat} {xJo : Nat → Nat} {xo : Nat} {cI cZ cJ : ClassId} {gGo : St} {gFo : St} {gPk : St} {qPk : Int64} {gSk : St} {gAi : St} {gSh : St} {gJo : St} {q q1 : Nat → Int64} : (wCc xCc cI cZ xGo xFo xPk xSk xAi xSh xJo gGo gFo gPk qPk gSk gAi gSh gJo ++ ([(xo, .inl (cJ, 1, .inr (.inl q)))] : va_W)).set 28 ((xo, .inl (cJ, 1, .inr (.inl q1))) : Nat × va_E) = wCc xCc cI cZ xGo xFo xPk xSk xAi xSh xJo gGo gFo gPk qPk gSk gAi gSh gJo ++ ([(xo, .inl (cJ, 1, .inr (.inl q1)))] : va_W) := set_last rfl
abbrev rm_La_object : Room := { frames := 9, cells := 1, slots := 6, locals := 153 }
set_option maxRecDepth 100000 in
set_option maxHeartbeats 4000000 in
theorem w_object_r (l : Launch) (D : va_G) (cI cZ cJ : ClassId) (xCc : Nat) (xGo : Nat → Nat) (xFo : Nat → Nat) (xPk : Nat → Nat) (xSk : Nat → Nat) (xAi : Nat → Nat) (xSh : Nat → Nat) (xJo : Nat → Nat) (xo sz : Nat) (gGo : St) (gFo : St) (gPk : St) (qPk : Int64) (gSk : St) (gAi : St) (gSh : St) (gJo : St) (q : Nat → Int64) (p1 : Int32) (p2 : Int32) (p3 : Int32) (p4 : Int32) (r : Int32) (gGo1 : St) (h : f_Cc_object gGo gFo gPk qPk gSk gAi gSh gJo p1 p2 p3 p4 = some (.inl (r, gGo1))) : MW l y_La_object b_La_object 7 [(0, 14, 17, 13), (0, 14, 21, 15)] rm_La_object D (TYS cI cZ cJ) [.ref xCc, .int p1, .int p2, .int p3, .int p4, .ref xo] (wCc xCc cI cZ xGo xFo xPk xSk xAi xSh xJo gGo gFo gPk qPk gSk gAi gSh gJo ++ ([(xo, .inl (cJ, 1, .inr (.inl q)))] : va_W)) sz 0 (wCc xCc cI cZ xGo xFo xPk xSk xAi xSh xJo gGo1 gFo gPk qPk gSk gAi gSh gJo ++ ([(xo, .inl (cJ, 1, .inr (.inl (vp_updL q (0 : Int32).toNatClampNeg (r.toInt64)))))] : va_W)) := by
  refine mw_start (own := R_La) (by decide +kernel) rfl (Nat.le_of_ble_eq_true rfl) (fun p e s m args below meth c A ls C0 hr hlk htb hP hD hS hl => ?_)
  obtain ⟨hx, hb, -, hown, hts, hK, hE, -⟩ := id C0
  have hl : lv_has ls 7 [(0, .ref xCc), (1, .int p1), (2, .int p2), (3, .int p3), (4, .int p4), (5, .ref xo)] := hl
  obtain ⟨H, hH⟩ : ∃ H, H = s.heap := ⟨_, rfl⟩
  have hP : va_P D vwCl (wCc xCc cI cZ xGo xFo xPk xSk xAi xSh xJo gGo gFo gPk qPk gSk gAi gSh gJo ++ ([(xo, .inl (cJ, 1, .inr (.inl q)))] : va_W)) H := by rw [hH]; exact hP
  have hS : va_S A s.heap H [] := by rw [hH]; exact hS
  rw [show W p l e rm_La_object s m args below meth c s.heap = W p l e rm_La_object s m args below meth c H by rw [hH]]
  generalize ([] : List Loc) = locs at hS ⊢
  refine lv_aload hx hb d_La_object_0 (lv_at hl 5 rfl) ?_
  refine lv_iconst (v := 0) hx hb d_La_object_2 (by decide) ?_
  refine lv_aload_n hx hb d_La_object_3 rfl (lv_at hl 0 rfl) ?_
  refine lv_iload_n hx hb d_La_object_4 rfl (lv_at hl 1 rfl) ?_
  refine lv_iload_n hx hb d_La_object_5 rfl (lv_at hl 2 rfl) ?_
  refine lv_iload_n hx hb d_La_object_6 rfl (lv_at hl 3 rfl) ?_
  refine lv_iload hx hb d_La_object_7 (lv_at hl 4 rfl) ?_
  refine cVi (ws' := wCc xCc cI cZ xGo xFo xPk xSk xAi xSh xJo gGo1 gFo gPk qPk gSk gAi gSh gJo ++ ([(xo, .inl (cJ, 1, .inr (.inl q)))] : va_W)) (As := [.int p1, .int p2, .int p3, .int p4]) (rest := [.int 0, .ref xo]) C0 hP hD hS hl.1 [0, 1, 2, 3, 4, 5, 6, 7, 8, 9, 10, 11, 12, 13, 14, 15, 16, 17, 18, 19, 20, 21, 22, 23, 24, 25, 26, 27] (c_Cc_object_r l D cI cZ cJ xCc xGo xFo xPk xSk xAi xSh xJo H.size gGo gFo gPk qPk gSk gAi gSh gJo p1 p2 p3 p4 r gGo1 h) k_Cc_object m_233 rfl rfl cc_C rfl cc_w cc_rp ⟨by decide, by decide⟩ ⟨rfl, rfl⟩ rfl (Nat.le_of_ble_eq_true rfl) d_La_object_9 ⟨Nat.zero_le _, Nat.zero_le _⟩ (fun H locs hP hD hS => ?_)
  refine lv_i2l (v := r.toInt64) hx hb d_La_object_12 rfl ?_
  refine va_last hx hb hK hP hD hS 28 2 rfl rfl (inb_in (by decide)) d_La_object_13 (fun H locs hP hD hS => ?_)
  rw [cc_o] at hP hD
  refine lv_goto (tgt := 25) hx hb d_La_object_14 (by decide) ?_
  refine lv_iconst (v := 0) hx hb d_La_object_25 (by decide) ?_
  exact mw_ret C0 hr hlk hP hD hS (by decide) (by decide) d_La_object_26
set_option maxRecDepth 100000 in
set_option maxHeartbeats 4000000 in
theorem w_object_t (l : Launch) (D : va_G) (cI cZ cJ : ClassId) (xCc : Nat) (xGo : Nat → Nat) (xFo : Nat → Nat) (xPk : Nat → Nat) (xSk : Nat → Nat) (xAi : Nat → Nat) (xSh : Nat → Nat) (xJo : Nat → Nat) (xo sz : Nat) (gGo : St) (gFo : St) (gPk : St) (qPk : Int64) (gSk : St) (gAi : St) (gSh : St) (gJo : St) (q : Nat → Int64) (p1 : Int32) (p2 : Int32) (p3 : Int32) (p4 : Int32) (hltr : l.stackTraces = false) (E : String) (k : Int32) (hEk : (E, k) ∈ [(xISE, 1), (xIAE, 2)]) (h : f_Cc_object gGo gFo gPk qPk gSk gAi gSh gJo p1 p2 p3 p4 = some (.inr E)) : MW l y_La_object b_La_object 7 [(0, 14, 17, 13), (0, 14, 21, 15)] rm_La_object D (TYS cI cZ cJ) [.ref xCc, .int p1, .int p2, .int p3, .int p4, .ref xo] (wCc xCc cI cZ xGo xFo xPk xSk xAi xSh xJo gGo gFo gPk qPk gSk gAi gSh gJo ++ ([(xo, .inl (cJ, 1, .inr (.inl q)))] : va_W)) sz k (wCc xCc cI cZ xGo xFo xPk xSk xAi xSh xJo gGo gFo gPk qPk gSk gAi gSh gJo ++ ([(xo, .inl (cJ, 1, .inr (.inl q)))] : va_W)) := by
  refine mw_start (own := R_La) (by decide +kernel) rfl (Nat.le_of_ble_eq_true rfl) (fun p e s m args below meth c A ls C0 hr hlk htb hP hD hS hl => ?_)
  obtain ⟨hx, hb, -, hown, hts, hK, hE, -⟩ := id C0
  have hl : lv_has ls 7 [(0, .ref xCc), (1, .int p1), (2, .int p2), (3, .int p3), (4, .int p4), (5, .ref xo)] := hl
  obtain ⟨H, hH⟩ : ∃ H, H = s.heap := ⟨_, rfl⟩
  have hP : va_P D vwCl (wCc xCc cI cZ xGo xFo xPk xSk xAi xSh xJo gGo gFo gPk qPk gSk gAi gSh gJo ++ ([(xo, .inl (cJ, 1, .inr (.inl q)))] : va_W)) H := by rw [hH]; exact hP
  have hS : va_S A s.heap H [] := by rw [hH]; exact hS
  rw [show W p l e rm_La_object s m args below meth c s.heap = W p l e rm_La_object s m args below meth c H by rw [hH]]
  generalize ([] : List Loc) = locs at hS ⊢
  refine lv_aload hx hb d_La_object_0 (lv_at hl 5 rfl) ?_
  refine lv_iconst (v := 0) hx hb d_La_object_2 (by decide) ?_
  refine lv_aload_n hx hb d_La_object_3 rfl (lv_at hl 0 rfl) ?_
  refine lv_iload_n hx hb d_La_object_4 rfl (lv_at hl 1 rfl) ?_
  refine lv_iload_n hx hb d_La_object_5 rfl (lv_at hl 2 rfl) ?_
  refine lv_iload_n hx hb d_La_object_6 rfl (lv_at hl 3 rfl) ?_
  refine lv_iload hx hb d_La_object_7 (lv_at hl 4 rfl) ?_
  rcases List.mem_cons.mp hEk with hq | hEk
  · obtain ⟨rfl, rfl⟩ := Prod.mk.inj hq
    refine x_got C0 hP hD hS [0, 1, 2, 3, 4, 5, 6, 7, 8, 9, 10, 11, 12, 13, 14, 15, 16, 17, 18, 19, 20, 21, 22, 23, 24, 25, 26, 27] cc_C rfl (rp_same cc_C) (rV (As := [.int p1, .int p2, .int p3, .int p4]) (rest := [.int 0, .ref xo]) C0 hP hD hS hl.1 [0, 1, 2, 3, 4, 5, 6, 7, 8, 9, 10, 11, 12, 13, 14, 15, 16, 17, 18, 19, 20, 21, 22, 23, 24, 25, 26, 27] (c_Cc_object_t l hltr D cI cZ cJ xCc xGo xFo xPk xSk xAi xSh xJo H.size gGo gFo gPk qPk gSk gAi gSh gJo p1 p2 p3 p4 xISE h) k_Cc_object m_233 rfl rfl cc_C rfl ⟨by decide, by decide⟩ ⟨rfl, rfl⟩ rfl (Nat.le_of_ble_eq_true rfl) d_La_object_9 ⟨by decide, by decide⟩) (pre := []) (x := ⟨0, 14, 17, 13⟩) (suf := [⟨0, 14, 21, 15⟩]) (htb.trans rfl) (fun z hz => absurd hz List.not_mem_nil) (by decide) (by decide) m_231 (by decide) (fun q9 H locs hP hD hS => ?_)
    refine lv_astore (lv' := [(6, .ref q9), (0, .ref xCc), (1, .int p1), (2, .int p2), (3, .int p3), (4, .int p4), (5, .ref xo)]) hx hb d_La_object_17 hl (by decide) rfl (fun ls hl => ?_)
    refine lv_iconst (v := 1) hx hb d_La_object_19 (by decide) ?_
    exact mw_ret C0 hr hlk hP hD hS (Nat.le_refl _) (Nat.le_refl _) d_La_object_20
  rcases List.mem_cons.mp hEk with hq | hEk
  · obtain ⟨rfl, rfl⟩ := Prod.mk.inj hq
    refine x_got C0 hP hD hS [0, 1, 2, 3, 4, 5, 6, 7, 8, 9, 10, 11, 12, 13, 14, 15, 16, 17, 18, 19, 20, 21, 22, 23, 24, 25, 26, 27] cc_C rfl (rp_same cc_C) (rV (As := [.int p1, .int p2, .int p3, .int p4]) (rest := [.int 0, .ref xo]) C0 hP hD hS hl.1 [0, 1, 2, 3, 4, 5, 6, 7, 8, 9, 10, 11, 12, 13, 14, 15, 16, 17, 18, 19, 20, 21, 22, 23, 24, 25, 26, 27] (c_Cc_object_t l hltr D cI cZ cJ xCc xGo xFo xPk xSk xAi xSh xJo H.size gGo gFo gPk qPk gSk gAi gSh gJo p1 p2 p3 p4 xIAE h) k_Cc_object m_233 rfl rfl cc_C rfl ⟨by decide, by decide⟩ ⟨rfl, rfl⟩ rfl (Nat.le_of_ble_eq_true rfl) d_La_object_9 ⟨by decide, by decide⟩) (pre := [⟨0, 14, 17, 13⟩]) (x := ⟨0, 14, 21, 15⟩) (suf := []) (htb.trans rfl) (List.forall_mem_cons.mpr ⟨⟨by decide, _, m_231, by decide⟩, fun z hz => absurd hz List.not_mem_nil⟩) (by decide) (by decide) m_232 (by decide) (fun q9 H locs hP hD hS => ?_)
    refine lv_astore (lv' := [(6, .ref q9), (0, .ref xCc), (1, .int p1), (2, .int p2), (3, .int p3), (4, .int p4), (5, .ref xo)]) hx hb d_La_object_21 hl (by decide) rfl (fun ls hl => ?_)
    refine lv_iconst (v := 2) hx hb d_La_object_23 (by decide) ?_
    exact mw_ret C0 hr hlk hP hD hS (Nat.le_refl _) (Nat.le_refl _) d_La_object_24
  exact absurd hEk List.not_mem_nil
abbrev rm_La_weak : Room := { frames := 9, cells := 1, slots := 6, locals := 151 }
set_option maxRecDepth 100000 in
set_option maxHeartbeats 4000000 in
theorem w_weak_r (l : Launch) (D : va_G) (cI cZ cJ : ClassId) (xCc : Nat) (xGo : Nat → Nat) (xFo : Nat → Nat) (xPk : Nat → Nat) (xSk : Nat → Nat) (xAi : Nat → Nat) (xSh : Nat → Nat) (xJo : Nat → Nat) (xo sz : Nat) (gGo : St) (gFo : St) (gPk : St) (qPk : Int64) (gSk : St) (gAi : St) (gSh : St) (gJo : St) (q : Nat → Int64) (p1 : Int32) (p2 : Int32) (p3 : Int32) (r : Int32) (gGo1 : St) (h : f_Cc_weak gGo gFo gPk qPk gSk gAi gSh gJo p1 p2 p3 = some (.inl (r, gGo1))) : MW l y_La_weak b_La_weak 6 [(0, 19, 22, 21)] rm_La_weak D (TYS cI cZ cJ) [.ref xCc, .int p1, .int p2, .int p3, .ref xo] (wCc xCc cI cZ xGo xFo xPk xSk xAi xSh xJo gGo gFo gPk qPk gSk gAi gSh gJo ++ ([(xo, .inl (cJ, 1, .inr (.inl q)))] : va_W)) sz 0 (wCc xCc cI cZ xGo xFo xPk xSk xAi xSh xJo gGo1 gFo gPk qPk gSk gAi gSh gJo ++ ([(xo, .inl (cJ, 1, .inr (.inl (vp_updL q (0 : Int32).toNatClampNeg (bz r)))))] : va_W)) := by
  refine mw_start (own := R_La) (by decide +kernel) rfl (Nat.le_of_ble_eq_true rfl) (fun p e s m args below meth c A ls C0 hr hlk htb hP hD hS hl => ?_)
  obtain ⟨hx, hb, -, hown, hts, hK, hE, -⟩ := id C0
  have hl : lv_has ls 6 [(0, .ref xCc), (1, .int p1), (2, .int p2), (3, .int p3), (4, .ref xo)] := hl
  obtain ⟨H, hH⟩ : ∃ H, H = s.heap := ⟨_, rfl⟩
  have hP : va_P D vwCl (wCc xCc cI cZ xGo xFo xPk xSk xAi xSh xJo gGo gFo gPk qPk gSk gAi gSh gJo ++ ([(xo, .inl (cJ, 1, .inr (.inl q)))] : va_W)) H := by rw [hH]; exact hP
  have hS : va_S A s.heap H [] := by rw [hH]; exact hS
  rw [show W p l e rm_La_weak s m args below meth c s.heap = W p l e rm_La_weak s m args below meth c H by rw [hH]]
  generalize ([] : List Loc) = locs at hS ⊢
  refine lv_aload hx hb d_La_weak_0 (lv_at hl 4 rfl) ?_
  refine lv_iconst (v := 0) hx hb d_La_weak_2 (by decide) ?_
  refine lv_aload_n hx hb d_La_weak_3 rfl (lv_at hl 0 rfl) ?_
  refine lv_iload_n hx hb d_La_weak_4 rfl (lv_at hl 1 rfl) ?_
  refine lv_iload_n hx hb d_La_weak_5 rfl (lv_at hl 2 rfl) ?_
  refine lv_iload_n hx hb d_La_weak_6 rfl (lv_at hl 3 rfl) ?_
  refine cVi (ws' := wCc xCc cI cZ xGo xFo xPk xSk xAi xSh xJo gGo1 gFo gPk qPk gSk gAi gSh gJo ++ ([(xo, .inl (cJ, 1, .inr (.inl q)))] : va_W)) (As := [.int p1, .int p2, .int p3]) (rest := [.int 0, .ref xo]) C0 hP hD hS hl.1 [0, 1, 2, 3, 4, 5, 6, 7, 8, 9, 10, 11, 12, 13, 14, 15, 16, 17, 18, 19, 20, 21, 22, 23, 24, 25, 26, 27] (c_Cc_weak_r l D cI cZ cJ xCc xGo xFo xPk xSk xAi xSh xJo H.size gGo gFo gPk qPk gSk gAi gSh gJo p1 p2 p3 r gGo1 h) k_Cc_weak m_336 rfl rfl cc_C rfl cc_w cc_rp ⟨by decide, by decide⟩ ⟨rfl, rfl⟩ rfl (Nat.le_of_ble_eq_true rfl) d_La_weak_7 ⟨Nat.zero_le _, Nat.zero_le _⟩ (fun H locs hP hD hS => ?_)
  have key : W p l e rm_La_weak s m args below meth c H locs 0 0 (QW below D (TYS cI cZ cJ) A (wCc xCc cI cZ xGo xFo xPk xSk xAi xSh xJo gGo1 gFo gPk qPk gSk gAi gSh gJo ++ ([(xo, .inl (cJ, 1, .inr (.inl (vp_updL q (0 : Int32).toNatClampNeg (bz r)))))] : va_W)) 0 args s) (F0 m 18 ls [.long (bz r), .int 0, .ref xo]) := by
    refine va_last hx hb hK hP hD hS 28 2 rfl rfl (inb_in (by decide)) d_La_weak_18 (fun H locs hP hD hS => ?_)
    rw [cc_o] at hP hD
    refine lv_goto (tgt := 26) hx hb d_La_weak_19 (by decide) ?_
    refine lv_iconst (v := 0) hx hb d_La_weak_26 (by decide) ?_
    exact mw_ret C0 hr hlk hP hD hS (by decide) (by decide) d_La_weak_27
  refine lv_if_eq (tgt := 17) hx hb d_La_weak_10 (by decide) (fun hz => ?_) (fun hz => ?_)
  · refine lv_lconst (v := 0) hx hb d_La_weak_17 (by decide) ?_
    have e0 : bz r = 0 := if_pos hz
    rw [e0] at key ⊢
    exact key
  · refine lv_lconst (v := 1) hx hb d_La_weak_13 (by decide) ?_
    refine lv_goto (tgt := 18) hx hb d_La_weak_14 (by decide) ?_
    have e0 : bz r = 1 := if_neg hz
    rw [e0] at key ⊢
    exact key
set_option maxRecDepth 100000 in
set_option maxHeartbeats 4000000 in
theorem w_weak_t (l : Launch) (D : va_G) (cI cZ cJ : ClassId) (xCc : Nat) (xGo : Nat → Nat) (xFo : Nat → Nat) (xPk : Nat → Nat) (xSk : Nat → Nat) (xAi : Nat → Nat) (xSh : Nat → Nat) (xJo : Nat → Nat) (xo sz : Nat) (gGo : St) (gFo : St) (gPk : St) (qPk : Int64) (gSk : St) (gAi : St) (gSh : St) (gJo : St) (q : Nat → Int64) (p1 : Int32) (p2 : Int32) (p3 : Int32) (hltr : l.stackTraces = false) (E : String) (k : Int32) (hEk : (E, k) ∈ [(xIOE, 1)]) (h : f_Cc_weak gGo gFo gPk qPk gSk gAi gSh gJo p1 p2 p3 = some (.inr E)) : MW l y_La_weak b_La_weak 6 [(0, 19, 22, 21)] rm_La_weak D (TYS cI cZ cJ) [.ref xCc, .int p1, .int p2, .int p3, .ref xo] (wCc xCc cI cZ xGo xFo xPk xSk xAi xSh xJo gGo gFo gPk qPk gSk gAi gSh gJo ++ ([(xo, .inl (cJ, 1, .inr (.inl q)))] : va_W)) sz k (wCc xCc cI cZ xGo xFo xPk xSk xAi xSh xJo gGo gFo gPk qPk gSk gAi gSh gJo ++ ([(xo, .inl (cJ, 1, .inr (.inl q)))] : va_W)) := by
  refine mw_start (own := R_La) (by decide +kernel) rfl (Nat.le_of_ble_eq_true rfl) (fun p e s m args below meth c A ls C0 hr hlk htb hP hD hS hl => ?_)
  obtain ⟨hx, hb, -, hown, hts, hK, hE, -⟩ := id C0
  have hl : lv_has ls 6 [(0, .ref xCc), (1, .int p1), (2, .int p2), (3, .int p3), (4, .ref xo)] := hl
  obtain ⟨H, hH⟩ : ∃ H, H = s.heap := ⟨_, rfl⟩
  have hP : va_P D vwCl (wCc xCc cI cZ xGo xFo xPk xSk xAi xSh xJo gGo gFo gPk qPk gSk gAi gSh gJo ++ ([(xo, .inl (cJ, 1, .inr (.inl q)))] : va_W)) H := by rw [hH]; exact hP
  have hS : va_S A s.heap H [] := by rw [hH]; exact hS
  rw [show W p l e rm_La_weak s m args below meth c s.heap = W p l e rm_La_weak s m args below meth c H by rw [hH]]
  generalize ([] : List Loc) = locs at hS ⊢
  refine lv_aload hx hb d_La_weak_0 (lv_at hl 4 rfl) ?_
  refine lv_iconst (v := 0) hx hb d_La_weak_2 (by decide) ?_
  refine lv_aload_n hx hb d_La_weak_3 rfl (lv_at hl 0 rfl) ?_
  refine lv_iload_n hx hb d_La_weak_4 rfl (lv_at hl 1 rfl) ?_
  refine lv_iload_n hx hb d_La_weak_5 rfl (lv_at hl 2 rfl) ?_
  refine lv_iload_n hx hb d_La_weak_6 rfl (lv_at hl 3 rfl) ?_
  rcases List.mem_cons.mp hEk with hq | hEk
  · obtain ⟨rfl, rfl⟩ := Prod.mk.inj hq
    refine x_got C0 hP hD hS [0, 1, 2, 3, 4, 5, 6, 7, 8, 9, 10, 11, 12, 13, 14, 15, 16, 17, 18, 19, 20, 21, 22, 23, 24, 25, 26, 27] cc_C rfl (rp_same cc_C) (rV (As := [.int p1, .int p2, .int p3]) (rest := [.int 0, .ref xo]) C0 hP hD hS hl.1 [0, 1, 2, 3, 4, 5, 6, 7, 8, 9, 10, 11, 12, 13, 14, 15, 16, 17, 18, 19, 20, 21, 22, 23, 24, 25, 26, 27] (c_Cc_weak_t l hltr D cI cZ cJ xCc xGo xFo xPk xSk xAi xSh xJo H.size gGo gFo gPk qPk gSk gAi gSh gJo p1 p2 p3 xIOE h) k_Cc_weak m_336 rfl rfl cc_C rfl ⟨by decide, by decide⟩ ⟨rfl, rfl⟩ rfl (Nat.le_of_ble_eq_true rfl) d_La_weak_7 ⟨by decide, by decide⟩) (pre := []) (x := ⟨0, 19, 22, 21⟩) (suf := []) (htb.trans rfl) (fun z hz => absurd hz List.not_mem_nil) (by decide) (by decide) m_335 (by decide) (fun q9 H locs hP hD hS => ?_)
    refine lv_astore (lv' := [(5, .ref q9), (0, .ref xCc), (1, .int p1), (2, .int p2), (3, .int p3), (4, .ref xo)]) hx hb d_La_weak_22 hl (by decide) rfl (fun ls hl => ?_)
    refine lv_iconst (v := 1) hx hb d_La_weak_24 (by decide) ?_
    exact mw_ret C0 hr hlk hP hD hS (Nat.le_refl _) (Nat.le_refl _) d_La_weak_25
  exact absurd hEk List.not_mem_nil
