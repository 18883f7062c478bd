set_option maxRecDepth 20000 in
theorem m_48 : Cond.code objectInit ⟨#[0xb1]⟩ 1 none ∈ WL := List.mem_filter.mpr ⟨List.mem_of_getElem? (i := 48) rfl, rfl⟩
section INITS
variable {p : Program} {l : Launch} {e : Env} {R : Room} {s : State} {m : MethodId} {args : Array Value} {below : List Frame} {meth : Method} {c : Code} {H : Heap} {locs : List Loc} {cells slots : Nat} {Q : State → Prop}
variable {own : String} {cc b : ByteArray} {nL n index pc sz ci mc ms : Nat} {rm : Room} {D : va_G} {ty : List (ClassId × FieldType)} {A : Nat → Prop} {y : MethodName} {av rest : List Value} {ls : Array Slot} {ws wr : va_W} {fs : List Value} {S : Type} {post : S → Prop} {wf : S → va_W} {cI cZ cJ : ClassId}
/-- a constructor's contract -/
def MN (l : Launch) (y : MethodName) (b : ByteArray) (n : Nat) (rm : Room) (D : va_G) (ty : List (ClassId × FieldType)) (av : List Value) (ws : va_W) (sz : Nat) (post : S → Prop) (wf : S → va_W) (mc ms : Nat) : Prop :=
  Met l y (.code y b n none :: WL) rm (cPc D ty av ws sz) (va_Qv post (fun u t => cB D ty (va_A ws sz) (wf u) t) (va_A ws sz)) mc ms (va_A ws sz)
def QN (below : List Frame) (D : va_G) (ty : List (ClassId × FieldType)) (A : Nat → Prop) (post : S → Prop) (wf : S → va_W) (mc ms : Nat) (args : Array Value) (s : State) : State → Prop := MQ below (va_Qv post (fun u t => cB D ty A (wf u) t) A) args s mc ms A
theorem mn_start (hy : plainName y.cls = true) (ho : y.cls = own) (hn : (lg_sl av).length ≤ n)
    (body : ∀ (p : Program) (e : Env) (s : State) (m : MethodId) (args : Array Value) (below : List Frame) (meth : Method) (c : Code) (A : Nat → Prop) (ls : Array Slot), CX p s m args c own b n D ty A → meth.sig.returnType = none → meth.locks = false → meth.name = y.name → va_P D vwCl ws s.heap → va_D A ws → va_S A s.heap s.heap [] → lv_has ls n (lv_args 0 av) → W p l e rm s m args below meth c s.heap [] 0 0 (QN below D ty A post wf mc ms args s) (F0 m 0 ls [])) : MN l y b n rm D ty av ws sz post wf mc ms := by
  refine Met.ofW (cc := b) (maxL := n) (ret := none) hy rfl ?_
  intro p e s m args below meth c s₁ B hml hv
  obtain ⟨rfl, hsz, hP, hK, hD0, hE⟩ := hv
  have hts := atoms_spec (ws := Cond.code y b n none :: WL) B.pre
  have hown : s.vm.findClass own = some m.cls := by rw [← ho]; exact findClass_of_methodNamed B.named
  subst hsz
  have hD := hD0.self (sz := s.heap.size)
  have hA : ∀ q : Nat, s.heap.size ≤ q → va_A ws s.heap.size q := fun q h => Or.inr h
  have hl := lv_entry av (n := n) hn
  rw [lg_entry_eq]
  exact body p e s m _ below meth c _ _ ⟨B.exec, B.bytes, hml, hown, fun w hw => hts w (List.mem_cons_of_mem _ hw), hK, hE, hA⟩ B.returns B.notSynchronized (name_of_methodNamed B.named B.method).1 hP hD va_S.rf hl
theorem mn_ret (u : S) (hu : post u) (C0 : CX p s m args c own cc nL D ty A) (hr : meth.sig.returnType = none) (hlk : meth.locks = false) (hP : va_P D vwCl (wf u) H) (hD : va_D A (wf u)) (hS : va_S A s.heap H locs) (hc : cells ≤ mc) (hs : slots ≤ ms) (hdg : decode cc pc = .ok (.return_, 1)) : W p l e R s m args below meth c H locs cells slots (QN below D ty A post wf mc ms args s) (F0 m pc ls []) :=
  W.widen (k := mc) (n := ms) hc hs (W.vret C0.1 C0.2.1 hr (fun t ht hW => ⟨⟨u, rfl, hu, by rw [ht]; exact hP, va_K.moved hW.alike C0.2.2.2.2.2.1, hD⟩, hS.F ht⟩) hS.2.2 hdg hlk)
theorem n_I (C0 : CX p s m args c own cc nL D (TYS cI cZ cJ) A) (hP : va_P D vwCl ws H) (hD : va_D A ws) (hS : va_S A s.heap H locs) {k : Int32} (N : Nat) (hn : ¬ k < 0) (hN : k.toNatClampNeg = N) (hbytes : N * componentBytes .int ≤ 536870912) (hcells : cells + 1 ≤ R.cells) (hslots : slots + N ≤ R.slots) (hdg : decode cc pc = .ok (.newarray .int, 2))
    (kk : ∀ (q : Nat) (H1 : Heap), va_P D vwCl (ws ++ [(q, .inl (cI, N, .inl (fun _ => 0)))]) H1 → va_D A (ws ++ [(q, .inl (cI, N, .inl (fun _ => 0)))]) → va_S A s.heap H1 locs → W p l e R s m args below meth c H1 locs (cells + 1) (slots + N) Q (F0 m (pc + 2) ls (.ref q :: rest))) : W p l e R s m args below meth c H locs cells slots Q (F0 m pc ls (.int k :: rest)) := by
  obtain ⟨hx, hb, -, -, hts, hK, -, hA⟩ := C0
  refine va_newa (atype := .int) (ty := .int) (a0 := (N, .inl (fun _ => 0))) hx hb (hts _ m_77) rfl hK hP hD hS hA (fun _ => rfl) hn hN hbytes hcells hslots hdg (fun q cA H1 hK1 hP1 hD1 hS1 => ?_)
  have e1 := (hK1.2 3 (cA, .int) rfl).2
  have e2 := (hK.2 0 (cI, .int) rfl).2
  have e : cA = cI := Option.some.inj (Eq.trans (Eq.symm e1) e2)
  subst e
  exact kk q H1 hP1 hD1 hS1
theorem n_Z (C0 : CX p s m args c own cc nL D (TYS cI cZ cJ) A) (hP : va_P D vwCl ws H) (hD : va_D A ws) (hS : va_S A s.heap H locs) {k : Int32} (N : Nat) (hn : ¬ k < 0) (hN : k.toNatClampNeg = N) (hbytes : N * componentBytes .boolean ≤ 536870912) (hcells : cells + 1 ≤ R.cells) (hslots : slots + N ≤ R.slots) (hdg : decode cc pc = .ok (.newarray .boolean, 2))
    (kk : ∀ (q : Nat) (H1 : Heap), va_P D vwCl (ws ++ [(q, .inl (cZ, N, .inl (fun _ => 0)))]) H1 → va_D A (ws ++ [(q, .inl (cZ, N, .inl (fun _ => 0)))]) → va_S A s.heap H1 locs → W p l e R s m args below meth c H1 locs (cells + 1) (slots + N) Q (F0 m (pc + 2) ls (.ref q :: rest))) : W p l e R s m args below meth c H locs cells slots Q (F0 m pc ls (.int k :: rest)) := by
  obtain ⟨hx, hb, -, -, hts, hK, -, hA⟩ := C0
  refine va_newa (atype := .boolean) (ty := .boolean) (a0 := (N, .inl (fun _ => 0))) hx hb (hts _ m_154) rfl hK hP hD hS hA (fun _ => rfl) hn hN hbytes hcells hslots hdg (fun q cA H1 hK1 hP1 hD1 hS1 => ?_)
  have e1 := (hK1.2 3 (cA, .boolean) rfl).2
  have e2 := (hK.2 1 (cZ, .boolean) rfl).2
  have e : cA = cZ := Option.some.inj (Eq.trans (Eq.symm e1) e2)
  subst e
  exact kk q H1 hP1 hD1 hS1
theorem n_J (C0 : CX p s m args c own cc nL D (TYS cI cZ cJ) A) (hP : va_P D vwCl ws H) (hD : va_D A ws) (hS : va_S A s.heap H locs) {k : Int32} (N : Nat) (hn : ¬ k < 0) (hN : k.toNatClampNeg = N) (hbytes : N * componentBytes .long ≤ 536870912) (hcells : cells + 1 ≤ R.cells) (hslots : slots + N ≤ R.slots) (hdg : decode cc pc = .ok (.newarray .long, 2))
    (kk : ∀ (q : Nat) (H1 : Heap), va_P D vwCl (ws ++ [(q, .inl (cJ, N, .inr (.inl (fun _ => 0))))]) H1 → va_D A (ws ++ [(q, .inl (cJ, N, .inr (.inl (fun _ => 0))))]) → va_S A s.heap H1 locs → W p l e R s m args below meth c H1 locs (cells + 1) (slots + N) Q (F0 m (pc + 2) ls (.ref q :: rest))) : W p l e R s m args below meth c H locs cells slots Q (F0 m pc ls (.int k :: rest)) := by
  obtain ⟨hx, hb, -, -, hts, hK, -, hA⟩ := C0
  refine va_newa (atype := .long) (ty := .long) (a0 := (N, .inr (.inl (fun _ => 0)))) hx hb (hts _ m_947) rfl hK hP hD hS hA (fun _ => rfl) hn hN hbytes hcells hslots hdg (fun q cA H1 hK1 hP1 hD1 hS1 => ?_)
  have e1 := (hK1.2 3 (cA, .long) rfl).2
  have e2 := (hK.2 2 (cJ, .long) rfl).2
  have e : cA = cJ := Option.some.inj (Eq.trans (Eq.symm e1) e2)
  subst e
  exact kk q H1 hP1 hD1 hS1
/-- a constructor is called on the newest cell -/
theorem cInit {q : Nat} (C0 : CX p s m args c own cc nL D ty A) (hP : va_P D vwCl (wr ++ [(q, .inr (ci, fs))]) H) (hD : va_D A (wr ++ [(q, .inr (ci, fs))])) (hS : va_S A s.heap H locs) (hls : ls.size = nL) (isR isC : List Nat) (hM : MN l y b n rm D ty [.ref q] [(q, .inr (ci, fs))] H.size post wf mc ms)
    (hY : Cond.code y b n none ∈ WL ∧ Cond.initialized y.cls ∈ WL ∧ Cond.instanceMethod y ∈ WL ∧ (y.cls ≠ "java/lang/invoke/MethodHandle" ∧ y.cls ≠ "java/lang/invoke/VarHandle" ∧ (parseMethodDescriptor y.desc).map (fun d => d.parameters.length) = some 0)) (hl : Cond.methodLink own index y ∈ WL) (hy1 : y.name = "<init>")
    (hC : isC.map (fun i => (wr ++ [(q, .inr (ci, fs))])[i]?) = [some (q, .inr (ci, fs))]) (hR' : isR.map (fun i => (wr ++ [(q, .inr (ci, fs))])[i]?) = wr.map some) (hnR : va_nd isR = true) (hnC : va_nd isC = true) (hdis : ∀ i ∈ isR, i ∉ isC)
    (hRm : rm.frames + 1 ≤ R.frames ∧ 8 + (n + 11) + rm.locals ≤ R.locals) (hrc : rm.cells = mc ∧ rm.slots = ms) (hst : (rest.map fun v => v.category).sum ≤ 8) (hdg : decode cc pc = .ok (.invokespecial index, 3)) (hcs : cells + mc ≤ R.cells ∧ slots + ms ≤ R.slots)
    (kk : ∀ (u : S) (H1 : Heap) (locs1 : List Loc), post u → va_P D vwCl (wr ++ wf u) H1 → va_D A (wr ++ wf u) → va_S A s.heap H1 locs1 → W p l e R s m args below meth c H1 locs1 (cells + mc) (slots + ms) Q (F0 m (pc + 3) ls rest)) : W p l e R s m args below meth c H locs cells slots Q (F0 m pc ls (.ref q :: rest)) := by
  have hC' : isC.map (fun i => (wr ++ [(q, .inr (ci, fs))])[i]?) = ([(q, .inr (ci, fs))] : va_W).map some := hC
  have hFc := c_free C0 hD hS isC hC'
  have hp : PreS s H (cPc D ty [.ref q] [(q, .inr (ci, fs))] H.size) [.ref q] := ⟨cPc_blind, c_at C0 hP hD hS isC hC' hnC⟩
  have hts := C0.2.2.2.2.1
  refine va_callv (va_runI (As := []) (b := q) (rest := rest) (c_fix C0) hM ⟨callB_of 0 hts (WL_good hY.1) rfl hrc.1 hrc.2 (hts _ hY.2.1) (hts _ hl) hY.2.2.2 hRm, hy1, hts _ hY.2.2.1⟩ hp rfl rfl hls rfl (lv_room hst) hdg hcs) hS (fun q _ h => hFc q h) hFc (fun u t H1 locs1 ht hvm hr1 hb hz1 hk1 hS1 => ?_)
  obtain ⟨hP1, -, hD1⟩ := hb
  rw [ht] at hP1
  obtain ⟨hP2, hD2⟩ := va_join hP hD isC isR hC' hR' hnR hdis hk1 hFc hP1 hD1
  exact kk u H1 locs1 hr1 hP2 hD2 hS1
end INITS
def gGo0 : St := fun k => match k with | 0 => fun _ => 0 | _ => fun _ => 0
abbrev rm_Go_init : Room := { frames := 1, cells := 5, slots := 158, locals := 12 }
set_option maxRecDepth 100000 in
set_option maxHeartbeats 4000000 in
theorem c_Go_init (l : Launch) (D : va_G) (cI cZ cJ : ClassId) (h0 sz : Nat) : MN l y_Go_init b_Go_init 1 rm_Go_init D (TYS cI cZ cJ) [.ref h0] [(h0, .inr (2, [.null, .null, .null, .null, .null, .int 0]))] sz (fun x : Nat → Nat => x 0 = h0) (fun x : Nat → Nat => wGo x cI cZ gGo0) 5 158 := by
  refine mn_start (own := R_Go) (by decide +kernel) rfl (Nat.le_of_ble_eq_true rfl) (fun p e s m args below meth c A ls C0 hr hlk hin hP hD hS hl => ?_)
  obtain ⟨Q, hQ⟩ : ∃ Q, Q = QN below D (TYS cI cZ cJ) A (fun x : Nat → Nat => x 0 = h0) (fun x : Nat → Nat => wGo x cI cZ gGo0) 5 158 args s := ⟨_, rfl⟩
  rw [← hQ]
  obtain ⟨hx, hb, -, hown, hts, hK, hE, hA⟩ := id C0
  have hl : lv_has ls 1 [(0, .ref h0)] := hl
  obtain ⟨H, hH⟩ : ∃ H, H = s.heap := ⟨_, rfl⟩
  have hP : va_P D vwCl [(h0, .inr (2, [.null, .null, .null, .null, .null, .int 0]))] H := by rw [hH]; exact hP
  have hS : va_S A s.heap H [] := by rw [hH]; exact hS
  rw [show W p l e rm_Go_init s m args below meth c s.heap = W p l e rm_Go_init s m args below meth c H by rw [hH]]
  generalize ([] : List Loc) = locs at hS ⊢
  refine lv_aload_n hx hb d_Go_init_0 rfl (lv_at hl 0 rfl) ?_
  refine W.objInit hx hb hown (hts _ m_54) (hts _ m_47) (hts _ m_48) rfl (by rw [C0.2.2.1]; exact hl.1) rfl d_Go_init_1 (Nat.le_of_ble_eq_true rfl) (Nat.le_of_ble_eq_true rfl) ?_
  refine W.eq (g2 := F0 m 4 ls []) rfl ?_
  refine lv_aload_n hx hb d_Go_init_4 rfl (lv_at hl 0 rfl) ?_
  refine lv_bipush (v := 18) hx hb d_Go_init_5 (by decide) ?_
  refine n_I C0 hP hD hS 18 (by decide) (by decide) (by decide) (Nat.le_of_ble_eq_true rfl) (Nat.le_of_ble_eq_true rfl) d_Go_init_7 (fun q1 H hP hD hS => ?_)
  have hP : va_P D vwCl [(h0, .inr (2, [.null, .null, .null, .null, .null, .int 0])), (q1, .inl (cI, 18, .inl (fun _ => 0)))] H := hP
  have hD : va_D A [(h0, .inr (2, [.null, .null, .null, .null, .null, .int 0])), (q1, .inl (cI, 18, .inl (fun _ => 0)))] := hD
  refine va_putF (D := D) (ci := 2) (v := .ref q1) (ty := (t_Go 0)) (C := R_Go) (T := F_Go) (N := 6) hx hb hts i_Go t_Go o_Go n_Go hown hK hP hD hS 0 rfl rfl 0 (by decide) (hts _ m_55) (fun _ h9 => h9) rfl hin rfl (by decide +kernel) rfl rfl (Nat.le_of_ble_eq_true rfl) d_Go_init_9 (fun H locs hP hD hS => ?_)
  have hP : va_P D vwCl [(h0, .inr (2, [.ref q1, .null, .null, .null, .null, .int 0])), (q1, .inl (cI, 18, .inl (fun _ => 0)))] H := hP
  have hD : va_D A [(h0, .inr (2, [.ref q1, .null, .null, .null, .null, .int 0])), (q1, .inl (cI, 18, .inl (fun _ => 0)))] := hD
  refine lv_aload_n hx hb d_Go_init_12 rfl (lv_at hl 0 rfl) ?_
  refine lv_bipush (v := 6) hx hb d_Go_init_13 (by decide) ?_
  refine n_I C0 hP hD hS 6 (by decide) (by decide) (by decide) (Nat.le_of_ble_eq_true rfl) (Nat.le_of_ble_eq_true rfl) d_Go_init_15 (fun q2 H hP hD hS => ?_)
  have hP : va_P D vwCl [(h0, .inr (2, [.ref q1, .null, .null, .null, .null, .int 0])), (q1, .inl (cI, 18, .inl (fun _ => 0))), (q2, .inl (cI, 6, .inl (fun _ => 0)))] H := hP
  have hD : va_D A [(h0, .inr (2, [.ref q1, .null, .null, .null, .null, .int 0])), (q1, .inl (cI, 18, .inl (fun _ => 0))), (q2, .inl (cI, 6, .inl (fun _ => 0)))] := hD
  refine va_putF (D := D) (ci := 2) (v := .ref q2) (ty := (t_Go 1)) (C := R_Go) (T := F_Go) (N := 6) hx hb hts i_Go t_Go o_Go n_Go hown hK hP hD hS 0 rfl rfl 1 (by decide) (hts _ m_57) (fun _ h9 => h9) rfl hin rfl (by decide +kernel) rfl rfl (Nat.le_of_ble_eq_true rfl) d_Go_init_17 (fun H locs hP hD hS => ?_)
  have hP : va_P D vwCl [(h0, .inr (2, [.ref q1, .ref q2, .null, .null, .null, .int 0])), (q1, .inl (cI, 18, .inl (fun _ => 0))), (q2, .inl (cI, 6, .inl (fun _ => 0)))] H := hP
  have hD : va_D A [(h0, .inr (2, [.ref q1, .ref q2, .null, .null, .null, .int 0])), (q1, .inl (cI, 18, .inl (fun _ => 0))), (q2, .inl (cI, 6, .inl (fun _ => 0)))] := hD
  refine lv_aload_n hx hb d_Go_init_20 rfl (lv_at hl 0 rfl) ?_
  refine lv_bipush (v := 6) hx hb d_Go_init_21 (by decide) ?_
  refine n_I C0 hP hD hS 6 (by decide) (by decide) (by decide) (Nat.le_of_ble_eq_true rfl) (Nat.le_of_ble_eq_true rfl) d_Go_init_23 (fun q3 H hP hD hS => ?_)
  have hP : va_P D vwCl [(h0, .inr (2, [.ref q1, .ref q2, .null, .null, .null, .int 0])), (q1, .inl (cI, 18, .inl (fun _ => 0))), (q2, .inl (cI, 6, .inl (fun _ => 0))), (q3, .inl (cI, 6, .inl (fun _ => 0)))] H := hP
  have hD : va_D A [(h0, .inr (2, [.ref q1, .ref q2, .null, .null, .null, .int 0])), (q1, .inl (cI, 18, .inl (fun _ => 0))), (q2, .inl (cI, 6, .inl (fun _ => 0))), (q3, .inl (cI, 6, .inl (fun _ => 0)))] := hD
  refine va_putF (D := D) (ci := 2) (v := .ref q3) (ty := (t_Go 2)) (C := R_Go) (T := F_Go) (N := 6) hx hb hts i_Go t_Go o_Go n_Go hown hK hP hD hS 0 rfl rfl 2 (by decide) (hts _ m_58) (fun _ h9 => h9) rfl hin rfl (by decide +kernel) rfl rfl (Nat.le_of_ble_eq_true rfl) d_Go_init_25 (fun H locs hP hD hS => ?_)
  have hP : va_P D vwCl [(h0, .inr (2, [.ref q1, .ref q2, .ref q3, .null, .null, .int 0])), (q1, .inl (cI, 18, .inl (fun _ => 0))), (q2, .inl (cI, 6, .inl (fun _ => 0))), (q3, .inl (cI, 6, .inl (fun _ => 0)))] H := hP
  have hD : va_D A [(h0, .inr (2, [.ref q1, .ref q2, .ref q3, .null, .null, .int 0])), (q1, .inl (cI, 18, .inl (fun _ => 0))), (q2, .inl (cI, 6, .inl (fun _ => 0))), (q3, .inl (cI, 6, .inl (fun _ => 0)))] := hD
  refine lv_aload_n hx hb d_Go_init_28 rfl (lv_at hl 0 rfl) ?_
  refine lv_bipush (v := 64) hx hb d_Go_init_29 (by decide) ?_
  refine n_I C0 hP hD hS 64 (by decide) (by decide) (by decide) (Nat.le_of_ble_eq_true rfl) (Nat.le_of_ble_eq_true rfl) d_Go_init_31 (fun q4 H hP hD hS => ?_)
  have hP : va_P D vwCl [(h0, .inr (2, [.ref q1, .ref q2, .ref q3, .null, .null, .int 0])), (q1, .inl (cI, 18, .inl (fun _ => 0))), (q2, .inl (cI, 6, .inl (fun _ => 0))), (q3, .inl (cI, 6, .inl (fun _ => 0))), (q4, .inl (cI, 64, .inl (fun _ => 0)))] H := hP
  have hD : va_D A [(h0, .inr (2, [.ref q1, .ref q2, .ref q3, .null, .null, .int 0])), (q1, .inl (cI, 18, .inl (fun _ => 0))), (q2, .inl (cI, 6, .inl (fun _ => 0))), (q3, .inl (cI, 6, .inl (fun _ => 0))), (q4, .inl (cI, 64, .inl (fun _ => 0)))] := hD
  refine va_putF (D := D) (ci := 2) (v := .ref q4) (ty := (t_Go 3)) (C := R_Go) (T := F_Go) (N := 6) hx hb hts i_Go t_Go o_Go n_Go hown hK hP hD hS 0 rfl rfl 3 (by decide) (hts _ m_59) (fun _ h9 => h9) rfl hin rfl (by decide +kernel) rfl rfl (Nat.le_of_ble_eq_true rfl) d_Go_init_33 (fun H locs hP hD hS => ?_)
  have hP : va_P D vwCl [(h0, .inr (2, [.ref q1, .ref q2, .ref q3, .ref q4, .null, .int 0])), (q1, .inl (cI, 18, .inl (fun _ => 0))), (q2, .inl (cI, 6, .inl (fun _ => 0))), (q3, .inl (cI, 6, .inl (fun _ => 0))), (q4, .inl (cI, 64, .inl (fun _ => 0)))] H := hP
  have hD : va_D A [(h0, .inr (2, [.ref q1, .ref q2, .ref q3, .ref q4, .null, .int 0])), (q1, .inl (cI, 18, .inl (fun _ => 0))), (q2, .inl (cI, 6, .inl (fun _ => 0))), (q3, .inl (cI, 6, .inl (fun _ => 0))), (q4, .inl (cI, 64, .inl (fun _ => 0)))] := hD
  refine lv_aload_n hx hb d_Go_init_36 rfl (lv_at hl 0 rfl) ?_
  refine lv_bipush (v := 64) hx hb d_Go_init_37 (by decide) ?_
  refine n_I C0 hP hD hS 64 (by decide) (by decide) (by decide) (Nat.le_of_ble_eq_true rfl) (Nat.le_of_ble_eq_true rfl) d_Go_init_39 (fun q5 H hP hD hS => ?_)
  have hP : va_P D vwCl [(h0, .inr (2, [.ref q1, .ref q2, .ref q3, .ref q4, .null, .int 0])), (q1, .inl (cI, 18, .inl (fun _ => 0))), (q2, .inl (cI, 6, .inl (fun _ => 0))), (q3, .inl (cI, 6, .inl (fun _ => 0))), (q4, .inl (cI, 64, .inl (fun _ => 0))), (q5, .inl (cI, 64, .inl (fun _ => 0)))] H := hP
  have hD : va_D A [(h0, .inr (2, [.ref q1, .ref q2, .ref q3, .ref q4, .null, .int 0])), (q1, .inl (cI, 18, .inl (fun _ => 0))), (q2, .inl (cI, 6, .inl (fun _ => 0))), (q3, .inl (cI, 6, .inl (fun _ => 0))), (q4, .inl (cI, 64, .inl (fun _ => 0))), (q5, .inl (cI, 64, .inl (fun _ => 0)))] := hD
  refine va_putF (D := D) (ci := 2) (v := .ref q5) (ty := (t_Go 4)) (C := R_Go) (T := F_Go) (N := 6) hx hb hts i_Go t_Go o_Go n_Go hown hK hP hD hS 0 rfl rfl 4 (by decide) (hts _ m_60) (fun _ h9 => h9) rfl hin rfl (by decide +kernel) rfl rfl (Nat.le_of_ble_eq_true rfl) d_Go_init_41 (fun H locs hP hD hS => ?_)
  have hP : va_P D vwCl [(h0, .inr (2, [.ref q1, .ref q2, .ref q3, .ref q4, .ref q5, .int 0])), (q1, .inl (cI, 18, .inl (fun _ => 0))), (q2, .inl (cI, 6, .inl (fun _ => 0))), (q3, .inl (cI, 6, .inl (fun _ => 0))), (q4, .inl (cI, 64, .inl (fun _ => 0))), (q5, .inl (cI, 64, .inl (fun _ => 0)))] H := hP
  have hD : va_D A [(h0, .inr (2, [.ref q1, .ref q2, .ref q3, .ref q4, .ref q5, .int 0])), (q1, .inl (cI, 18, .inl (fun _ => 0))), (q2, .inl (cI, 6, .inl (fun _ => 0))), (q3, .inl (cI, 6, .inl (fun _ => 0))), (q4, .inl (cI, 64, .inl (fun _ => 0))), (q5, .inl (cI, 64, .inl (fun _ => 0)))] := hD
  refine lv_aload_n hx hb d_Go_init_44 rfl (lv_at hl 0 rfl) ?_
  refine lv_iconst (v := 0) hx hb d_Go_init_45 (by decide) ?_
  refine va_put (D := D) (ci := 2) (v := .int 0) (ty := .int) (C := R_Go) (T := F_Go) (N := 6) hx hb hts i_Go t_Go o_Go n_Go hown hK hP hD hS 0 rfl rfl 5 (by decide) (hts _ m_61) (fun _ h9 => h9) rfl (by decide +kernel) rfl rfl (Nat.le_of_ble_eq_true rfl) d_Go_init_46 (fun H locs hP hD hS => ?_)
  have hP : va_P D vwCl [(h0, .inr (2, [.ref q1, .ref q2, .ref q3, .ref q4, .ref q5, .int 0])), (q1, .inl (cI, 18, .inl (fun _ => 0))), (q2, .inl (cI, 6, .inl (fun _ => 0))), (q3, .inl (cI, 6, .inl (fun _ => 0))), (q4, .inl (cI, 64, .inl (fun _ => 0))), (q5, .inl (cI, 64, .inl (fun _ => 0)))] H := hP
  have hD : va_D A [(h0, .inr (2, [.ref q1, .ref q2, .ref q3, .ref q4, .ref q5, .int 0])), (q1, .inl (cI, 18, .inl (fun _ => 0))), (q2, .inl (cI, 6, .inl (fun _ => 0))), (q3, .inl (cI, 6, .inl (fun _ => 0))), (q4, .inl (cI, 64, .inl (fun _ => 0))), (q5, .inl (cI, 64, .inl (fun _ => 0)))] := hD
  rw [hQ]
  exact mn_ret (S := Nat → Nat) (fun k => match k with | 0 => h0 | 1 => q1 | 2 => q2 | 3 => q3 | 4 => q4 | _ => q5) rfl C0 hr hlk hP hD hS (Nat.le_of_ble_eq_true rfl) (Nat.le_of_ble_eq_true rfl) d_Go_init_49
def gFo0 : St := fun k => match k with | 0 => fun _ => 0 | _ => fun _ => 0
abbrev rm_Fo_init : Room := { frames := 1, cells := 5, slots := 452, locals := 12 }
set_option maxRecDepth 100000 in
set_option maxHeartbeats 4000000 in
theorem c_Fo_init (l : Launch) (D : va_G) (cI cZ cJ : ClassId) (h0 sz : Nat) : MN l y_Fo_init b_Fo_init 1 rm_Fo_init D (TYS cI cZ cJ) [.ref h0] [(h0, .inr (1, [.null, .null, .null, .null, .null]))] sz (fun x : Nat → Nat => x 0 = h0) (fun x : Nat → Nat => wFo x cI cZ gFo0) 5 452 := by
  refine mn_start (own := R_Fo) (by decide +kernel) rfl (Nat.le_of_ble_eq_true rfl) (fun p e s m args below meth c A ls C0 hr hlk hin hP hD hS hl => ?_)
  obtain ⟨Q, hQ⟩ : ∃ Q, Q = QN below D (TYS cI cZ cJ) A (fun x : Nat → Nat => x 0 = h0) (fun x : Nat → Nat => wFo x cI cZ gFo0) 5 452 args s := ⟨_, rfl⟩
  rw [← hQ]
  obtain ⟨hx, hb, -, hown, hts, hK, hE, hA⟩ := id C0
  have hl : lv_has ls 1 [(0, .ref h0)] := hl
  obtain ⟨H, hH⟩ : ∃ H, H = s.heap := ⟨_, rfl⟩
  have hP : va_P D vwCl [(h0, .inr (1, [.null, .null, .null, .null, .null]))] H := by rw [hH]; exact hP
  have hS : va_S A s.heap H [] := by rw [hH]; exact hS
  rw [show W p l e rm_Fo_init s m args below meth c s.heap = W p l e rm_Fo_init s m args below meth c H by rw [hH]]
  generalize ([] : List Loc) = locs at hS ⊢
  refine lv_aload_n hx hb d_Fo_init_0 rfl (lv_at hl 0 rfl) ?_
  refine W.objInit hx hb hown (hts _ m_83) (hts _ m_47) (hts _ m_48) rfl (by rw [C0.2.2.1]; exact hl.1) rfl d_Fo_init_1 (Nat.le_of_ble_eq_true rfl) (Nat.le_of_ble_eq_true rfl) ?_
  refine W.eq (g2 := F0 m 4 ls []) rfl ?_
  refine lv_aload_n hx hb d_Fo_init_4 rfl (lv_at hl 0 rfl) ?_
  refine lv_iconst (v := 4) hx hb d_Fo_init_5 (by decide) ?_
  refine n_I C0 hP hD hS 4 (by decide) (by decide) (by decide) (Nat.le_of_ble_eq_true rfl) (Nat.le_of_ble_eq_true rfl) d_Fo_init_6 (fun q1 H hP hD hS => ?_)
  have hP : va_P D vwCl [(h0, .inr (1, [.null, .null, .null, .null, .null])), (q1, .inl (cI, 4, .inl (fun _ => 0)))] H := hP
  have hD : va_D A [(h0, .inr (1, [.null, .null, .null, .null, .null])), (q1, .inl (cI, 4, .inl (fun _ => 0)))] := hD
  refine va_putF (D := D) (ci := 1) (v := .ref q1) (ty := (t_Fo 0)) (C := R_Fo) (T := F_Fo) (N := 5) hx hb hts i_Fo t_Fo o_Fo n_Fo hown hK hP hD hS 0 rfl rfl 0 (by decide) (hts _ m_84) (fun _ h9 => h9) rfl hin rfl (by decide +kernel) rfl rfl (Nat.le_of_ble_eq_true rfl) d_Fo_init_8 (fun H locs hP hD hS => ?_)
  have hP : va_P D vwCl [(h0, .inr (1, [.ref q1, .null, .null, .null, .null])), (q1, .inl (cI, 4, .inl (fun _ => 0)))] H := hP
  have hD : va_D A [(h0, .inr (1, [.ref q1, .null, .null, .null, .null])), (q1, .inl (cI, 4, .inl (fun _ => 0)))] := hD
  refine lv_aload_n hx hb d_Fo_init_11 rfl (lv_at hl 0 rfl) ?_
  refine lv_bipush (v := 32) hx hb d_Fo_init_12 (by decide) ?_
  refine n_I C0 hP hD hS 32 (by decide) (by decide) (by decide) (Nat.le_of_ble_eq_true rfl) (Nat.le_of_ble_eq_true rfl) d_Fo_init_14 (fun q2 H hP hD hS => ?_)
  have hP : va_P D vwCl [(h0, .inr (1, [.ref q1, .null, .null, .null, .null])), (q1, .inl (cI, 4, .inl (fun _ => 0))), (q2, .inl (cI, 32, .inl (fun _ => 0)))] H := hP
  have hD : va_D A [(h0, .inr (1, [.ref q1, .null, .null, .null, .null])), (q1, .inl (cI, 4, .inl (fun _ => 0))), (q2, .inl (cI, 32, .inl (fun _ => 0)))] := hD
  refine va_putF (D := D) (ci := 1) (v := .ref q2) (ty := (t_Fo 1)) (C := R_Fo) (T := F_Fo) (N := 5) hx hb hts i_Fo t_Fo o_Fo n_Fo hown hK hP hD hS 0 rfl rfl 1 (by decide) (hts _ m_85) (fun _ h9 => h9) rfl hin rfl (by decide +kernel) rfl rfl (Nat.le_of_ble_eq_true rfl) d_Fo_init_16 (fun H locs hP hD hS => ?_)
  have hP : va_P D vwCl [(h0, .inr (1, [.ref q1, .ref q2, .null, .null, .null])), (q1, .inl (cI, 4, .inl (fun _ => 0))), (q2, .inl (cI, 32, .inl (fun _ => 0)))] H := hP
  have hD : va_D A [(h0, .inr (1, [.ref q1, .ref q2, .null, .null, .null])), (q1, .inl (cI, 4, .inl (fun _ => 0))), (q2, .inl (cI, 32, .inl (fun _ => 0)))] := hD
  refine lv_aload_n hx hb d_Fo_init_19 rfl (lv_at hl 0 rfl) ?_
  refine lv_bipush (v := 32) hx hb d_Fo_init_20 (by decide) ?_
  refine n_I C0 hP hD hS 32 (by decide) (by decide) (by decide) (Nat.le_of_ble_eq_true rfl) (Nat.le_of_ble_eq_true rfl) d_Fo_init_22 (fun q3 H hP hD hS => ?_)
  have hP : va_P D vwCl [(h0, .inr (1, [.ref q1, .ref q2, .null, .null, .null])), (q1, .inl (cI, 4, .inl (fun _ => 0))), (q2, .inl (cI, 32, .inl (fun _ => 0))), (q3, .inl (cI, 32, .inl (fun _ => 0)))] H := hP
  have hD : va_D A [(h0, .inr (1, [.ref q1, .ref q2, .null, .null, .null])), (q1, .inl (cI, 4, .inl (fun _ => 0))), (q2, .inl (cI, 32, .inl (fun _ => 0))), (q3, .inl (cI, 32, .inl (fun _ => 0)))] := hD
  refine va_putF (D := D) (ci := 1) (v := .ref q3) (ty := (t_Fo 2)) (C := R_Fo) (T := F_Fo) (N := 5) hx hb hts i_Fo t_Fo o_Fo n_Fo hown hK hP hD hS 0 rfl rfl 2 (by decide) (hts _ m_86) (fun _ h9 => h9) rfl hin rfl (by decide +kernel) rfl rfl (Nat.le_of_ble_eq_true rfl) d_Fo_init_24 (fun H locs hP hD hS => ?_)
  have hP : va_P D vwCl [(h0, .inr (1, [.ref q1, .ref q2, .ref q3, .null, .null])), (q1, .inl (cI, 4, .inl (fun _ => 0))), (q2, .inl (cI, 32, .inl (fun _ => 0))), (q3, .inl (cI, 32, .inl (fun _ => 0)))] H := hP
  have hD : va_D A [(h0, .inr (1, [.ref q1, .ref q2, .ref q3, .null, .null])), (q1, .inl (cI, 4, .inl (fun _ => 0))), (q2, .inl (cI, 32, .inl (fun _ => 0))), (q3, .inl (cI, 32, .inl (fun _ => 0)))] := hD
  refine lv_aload_n hx hb d_Fo_init_27 rfl (lv_at hl 0 rfl) ?_
  refine lv_sipush (v := 192) hx hb d_Fo_init_28 (by decide) ?_
  refine n_I C0 hP hD hS 192 (by decide) (by decide) (by decide) (Nat.le_of_ble_eq_true rfl) (Nat.le_of_ble_eq_true rfl) d_Fo_init_31 (fun q4 H hP hD hS => ?_)
  have hP : va_P D vwCl [(h0, .inr (1, [.ref q1, .ref q2, .ref q3, .null, .null])), (q1, .inl (cI, 4, .inl (fun _ => 0))), (q2, .inl (cI, 32, .inl (fun _ => 0))), (q3, .inl (cI, 32, .inl (fun _ => 0))), (q4, .inl (cI, 192, .inl (fun _ => 0)))] H := hP
  have hD : va_D A [(h0, .inr (1, [.ref q1, .ref q2, .ref q3, .null, .null])), (q1, .inl (cI, 4, .inl (fun _ => 0))), (q2, .inl (cI, 32, .inl (fun _ => 0))), (q3, .inl (cI, 32, .inl (fun _ => 0))), (q4, .inl (cI, 192, .inl (fun _ => 0)))] := hD
  refine va_putF (D := D) (ci := 1) (v := .ref q4) (ty := (t_Fo 3)) (C := R_Fo) (T := F_Fo) (N := 5) hx hb hts i_Fo t_Fo o_Fo n_Fo hown hK hP hD hS 0 rfl rfl 3 (by decide) (hts _ m_87) (fun _ h9 => h9) rfl hin rfl (by decide +kernel) rfl rfl (Nat.le_of_ble_eq_true rfl) d_Fo_init_33 (fun H locs hP hD hS => ?_)
  have hP : va_P D vwCl [(h0, .inr (1, [.ref q1, .ref q2, .ref q3, .ref q4, .null])), (q1, .inl (cI, 4, .inl (fun _ => 0))), (q2, .inl (cI, 32, .inl (fun _ => 0))), (q3, .inl (cI, 32, .inl (fun _ => 0))), (q4, .inl (cI, 192, .inl (fun _ => 0)))] H := hP
  have hD : va_D A [(h0, .inr (1, [.ref q1, .ref q2, .ref q3, .ref q4, .null])), (q1, .inl (cI, 4, .inl (fun _ => 0))), (q2, .inl (cI, 32, .inl (fun _ => 0))), (q3, .inl (cI, 32, .inl (fun _ => 0))), (q4, .inl (cI, 192, .inl (fun _ => 0)))] := hD
  refine lv_aload_n hx hb d_Fo_init_36 rfl (lv_at hl 0 rfl) ?_
  refine lv_sipush (v := 192) hx hb d_Fo_init_37 (by decide) ?_
  refine n_I C0 hP hD hS 192 (by decide) (by decide) (by decide) (Nat.le_of_ble_eq_true rfl) (Nat.le_of_ble_eq_true rfl) d_Fo_init_40 (fun q5 H hP hD hS => ?_)
  have hP : va_P D vwCl [(h0, .inr (1, [.ref q1, .ref q2, .ref q3, .ref q4, .null])), (q1, .inl (cI, 4, .inl (fun _ => 0))), (q2, .inl (cI, 32, .inl (fun _ => 0))), (q3, .inl (cI, 32, .inl (fun _ => 0))), (q4, .inl (cI, 192, .inl (fun _ => 0))), (q5, .inl (cI, 192, .inl (fun _ => 0)))] H := hP
  have hD : va_D A [(h0, .inr (1, [.ref q1, .ref q2, .ref q3, .ref q4, .null])), (q1, .inl (cI, 4, .inl (fun _ => 0))), (q2, .inl (cI, 32, .inl (fun _ => 0))), (q3, .inl (cI, 32, .inl (fun _ => 0))), (q4, .inl (cI, 192, .inl (fun _ => 0))), (q5, .inl (cI, 192, .inl (fun _ => 0)))] := hD
  refine va_putF (D := D) (ci := 1) (v := .ref q5) (ty := (t_Fo 4)) (C := R_Fo) (T := F_Fo) (N := 5) hx hb hts i_Fo t_Fo o_Fo n_Fo hown hK hP hD hS 0 rfl rfl 4 (by decide) (hts _ m_88) (fun _ h9 => h9) rfl hin rfl (by decide +kernel) rfl rfl (Nat.le_of_ble_eq_true rfl) d_Fo_init_42 (fun H locs hP hD hS => ?_)
  have hP : va_P D vwCl [(h0, .inr (1, [.ref q1, .ref q2, .ref q3, .ref q4, .ref q5])), (q1, .inl (cI, 4, .inl (fun _ => 0))), (q2, .inl (cI, 32, .inl (fun _ => 0))), (q3, .inl (cI, 32, .inl (fun _ => 0))), (q4, .inl (cI, 192, .inl (fun _ => 0))), (q5, .inl (cI, 192, .inl (fun _ => 0)))] H := hP
  have hD : va_D A [(h0, .inr (1, [.ref q1, .ref q2, .ref q3, .ref q4, .ref q5])), (q1, .inl (cI, 4, .inl (fun _ => 0))), (q2, .inl (cI, 32, .inl (fun _ => 0))), (q3, .inl (cI, 32, .inl (fun _ => 0))), (q4, .inl (cI, 192, .inl (fun _ => 0))), (q5, .inl (cI, 192, .inl (fun _ => 0)))] := hD
  rw [hQ]
  exact mn_ret (S := Nat → Nat) (fun k => match k with | 0 => h0 | 1 => q1 | 2 => q2 | 3 => q3 | 4 => q4 | _ => q5) rfl C0 hr hlk hP hD hS (Nat.le_of_ble_eq_true rfl) (Nat.le_of_ble_eq_true rfl) d_Fo_init_45
def gPk0 : St := fun k => match k with | 0 => fun _ => 0 | _ => fun _ => 0
abbrev rm_Pk_init : Room := { frames := 1, cells := 4, slots := 21, locals := 12 }
set_option maxRecDepth 100000 in
set_option maxHeartbeats 4000000 in
theorem c_Pk_init (l : Launch) (D : va_G) (cI cZ cJ : ClassId) (h0 sz : Nat) : MN l y_Pk_init b_Pk_init 1 rm_Pk_init D (TYS cI cZ cJ) [.ref h0] [(h0, .inr (4, [.null, .null, .null, .null, .int 0, .int 0, .int 0, .long 0]))] sz (fun x : Nat → Nat => x 0 = h0) (fun x : Nat → Nat => wPk x cI cZ gPk0 0) 4 21 := by
  refine mn_start (own := R_Pk) (by decide +kernel) rfl (Nat.le_of_ble_eq_true rfl) (fun p e s m args below meth c A ls C0 hr hlk hin hP hD hS hl => ?_)
  obtain ⟨Q, hQ⟩ : ∃ Q, Q = QN below D (TYS cI cZ cJ) A (fun x : Nat → Nat => x 0 = h0) (fun x : Nat → Nat => wPk x cI cZ gPk0 0) 4 21 args s := ⟨_, rfl⟩
  rw [← hQ]
  obtain ⟨hx, hb, -, hown, hts, hK, hE, hA⟩ := id C0
  have hl : lv_has ls 1 [(0, .ref h0)] := hl
  obtain ⟨H, hH⟩ : ∃ H, H = s.heap := ⟨_, rfl⟩
  have hP : va_P D vwCl [(h0, .inr (4, [.null, .null, .null, .null, .int 0, .int 0, .int 0, .long 0]))] H := by rw [hH]; exact hP
  have hS : va_S A s.heap H [] := by rw [hH]; exact hS
  rw [show W p l e rm_Pk_init s m args below meth c s.heap = W p l e rm_Pk_init s m args below meth c H by rw [hH]]
  generalize ([] : List Loc) = locs at hS ⊢
  refine lv_aload_n hx hb d_Pk_init_0 rfl (lv_at hl 0 rfl) ?_
  refine W.objInit hx hb hown (hts _ m_105) (hts _ m_47) (hts _ m_48) rfl (by rw [C0.2.2.1]; exact hl.1) rfl d_Pk_init_1 (Nat.le_of_ble_eq_true rfl) (Nat.le_of_ble_eq_true rfl) ?_
  refine W.eq (g2 := F0 m 4 ls []) rfl ?_
  refine lv_aload_n hx hb d_Pk_init_4 rfl (lv_at hl 0 rfl) ?_
  refine lv_iconst (v := 3) hx hb d_Pk_init_5 (by decide) ?_
  refine n_I C0 hP hD hS 3 (by decide) (by decide) (by decide) (Nat.le_of_ble_eq_true rfl) (Nat.le_of_ble_eq_true rfl) d_Pk_init_6 (fun q1 H hP hD hS => ?_)
  have hP : va_P D vwCl [(h0, .inr (4, [.null, .null, .null, .null, .int 0, .int 0, .int 0, .long 0])), (q1, .inl (cI, 3, .inl (fun _ => 0)))] H := hP
  have hD : va_D A [(h0, .inr (4, [.null, .null, .null, .null, .int 0, .int 0, .int 0, .long 0])), (q1, .inl (cI, 3, .inl (fun _ => 0)))] := hD
  refine va_putF (D := D) (ci := 4) (v := .ref q1) (ty := (t_Pk 0)) (C := R_Pk) (T := F_Pk) (N := 8) hx hb hts i_Pk t_Pk o_Pk n_Pk hown hK hP hD hS 0 rfl rfl 0 (by decide) (hts _ m_106) (fun _ h9 => h9) rfl hin rfl (by decide +kernel) rfl rfl (Nat.le_of_ble_eq_true rfl) d_Pk_init_8 (fun H locs hP hD hS => ?_)
  have hP : va_P D vwCl [(h0, .inr (4, [.ref q1, .null, .null, .null, .int 0, .int 0, .int 0, .long 0])), (q1, .inl (cI, 3, .inl (fun _ => 0)))] H := hP
  have hD : va_D A [(h0, .inr (4, [.ref q1, .null, .null, .null, .int 0, .int 0, .int 0, .long 0])), (q1, .inl (cI, 3, .inl (fun _ => 0)))] := hD
  refine lv_aload_n hx hb d_Pk_init_11 rfl (lv_at hl 0 rfl) ?_
  refine lv_bipush (v := 6) hx hb d_Pk_init_12 (by decide) ?_
  refine n_I C0 hP hD hS 6 (by decide) (by decide) (by decide) (Nat.le_of_ble_eq_true rfl) (Nat.le_of_ble_eq_true rfl) d_Pk_init_14 (fun q2 H hP hD hS => ?_)
  have hP : va_P D vwCl [(h0, .inr (4, [.ref q1, .null, .null, .null, .int 0, .int 0, .int 0, .long 0])), (q1, .inl (cI, 3, .inl (fun _ => 0))), (q2, .inl (cI, 6, .inl (fun _ => 0)))] H := hP
  have hD : va_D A [(h0, .inr (4, [.ref q1, .null, .null, .null, .int 0, .int 0, .int 0, .long 0])), (q1, .inl (cI, 3, .inl (fun _ => 0))), (q2, .inl (cI, 6, .inl (fun _ => 0)))] := hD
  refine va_putF (D := D) (ci := 4) (v := .ref q2) (ty := (t_Pk 1)) (C := R_Pk) (T := F_Pk) (N := 8) hx hb hts i_Pk t_Pk o_Pk n_Pk hown hK hP hD hS 0 rfl rfl 1 (by decide) (hts _ m_107) (fun _ h9 => h9) rfl hin rfl (by decide +kernel) rfl rfl (Nat.le_of_ble_eq_true rfl) d_Pk_init_16 (fun H locs hP hD hS => ?_)
  have hP : va_P D vwCl [(h0, .inr (4, [.ref q1, .ref q2, .null, .null, .int 0, .int 0, .int 0, .long 0])), (q1, .inl (cI, 3, .inl (fun _ => 0))), (q2, .inl (cI, 6, .inl (fun _ => 0)))] H := hP
  have hD : va_D A [(h0, .inr (4, [.ref q1, .ref q2, .null, .null, .int 0, .int 0, .int 0, .long 0])), (q1, .inl (cI, 3, .inl (fun _ => 0))), (q2, .inl (cI, 6, .inl (fun _ => 0)))] := hD
  refine lv_aload_n hx hb d_Pk_init_19 rfl (lv_at hl 0 rfl) ?_
  refine lv_bipush (v := 6) hx hb d_Pk_init_20 (by decide) ?_
  refine n_I C0 hP hD hS 6 (by decide) (by decide) (by decide) (Nat.le_of_ble_eq_true rfl) (Nat.le_of_ble_eq_true rfl) d_Pk_init_22 (fun q3 H hP hD hS => ?_)
  have hP : va_P D vwCl [(h0, .inr (4, [.ref q1, .ref q2, .null, .null, .int 0, .int 0, .int 0, .long 0])), (q1, .inl (cI, 3, .inl (fun _ => 0))), (q2, .inl (cI, 6, .inl (fun _ => 0))), (q3, .inl (cI, 6, .inl (fun _ => 0)))] H := hP
  have hD : va_D A [(h0, .inr (4, [.ref q1, .ref q2, .null, .null, .int 0, .int 0, .int 0, .long 0])), (q1, .inl (cI, 3, .inl (fun _ => 0))), (q2, .inl (cI, 6, .inl (fun _ => 0))), (q3, .inl (cI, 6, .inl (fun _ => 0)))] := hD
  refine va_putF (D := D) (ci := 4) (v := .ref q3) (ty := (t_Pk 2)) (C := R_Pk) (T := F_Pk) (N := 8) hx hb hts i_Pk t_Pk o_Pk n_Pk hown hK hP hD hS 0 rfl rfl 2 (by decide) (hts _ m_108) (fun _ h9 => h9) rfl hin rfl (by decide +kernel) rfl rfl (Nat.le_of_ble_eq_true rfl) d_Pk_init_24 (fun H locs hP hD hS => ?_)
  have hP : va_P D vwCl [(h0, .inr (4, [.ref q1, .ref q2, .ref q3, .null, .int 0, .int 0, .int 0, .long 0])), (q1, .inl (cI, 3, .inl (fun _ => 0))), (q2, .inl (cI, 6, .inl (fun _ => 0))), (q3, .inl (cI, 6, .inl (fun _ => 0)))] H := hP
  have hD : va_D A [(h0, .inr (4, [.ref q1, .ref q2, .ref q3, .null, .int 0, .int 0, .int 0, .long 0])), (q1, .inl (cI, 3, .inl (fun _ => 0))), (q2, .inl (cI, 6, .inl (fun _ => 0))), (q3, .inl (cI, 6, .inl (fun _ => 0)))] := hD
  refine lv_aload_n hx hb d_Pk_init_27 rfl (lv_at hl 0 rfl) ?_
  refine lv_bipush (v := 6) hx hb d_Pk_init_28 (by decide) ?_
  refine n_I C0 hP hD hS 6 (by decide) (by decide) (by decide) (Nat.le_of_ble_eq_true rfl) (Nat.le_of_ble_eq_true rfl) d_Pk_init_30 (fun q4 H hP hD hS => ?_)
  have hP : va_P D vwCl [(h0, .inr (4, [.ref q1, .ref q2, .ref q3, .null, .int 0, .int 0, .int 0, .long 0])), (q1, .inl (cI, 3, .inl (fun _ => 0))), (q2, .inl (cI, 6, .inl (fun _ => 0))), (q3, .inl (cI, 6, .inl (fun _ => 0))), (q4, .inl (cI, 6, .inl (fun _ => 0)))] H := hP
  have hD : va_D A [(h0, .inr (4, [.ref q1, .ref q2, .ref q3, .null, .int 0, .int 0, .int 0, .long 0])), (q1, .inl (cI, 3, .inl (fun _ => 0))), (q2, .inl (cI, 6, .inl (fun _ => 0))), (q3, .inl (cI, 6, .inl (fun _ => 0))), (q4, .inl (cI, 6, .inl (fun _ => 0)))] := hD
  refine va_putF (D := D) (ci := 4) (v := .ref q4) (ty := (t_Pk 3)) (C := R_Pk) (T := F_Pk) (N := 8) hx hb hts i_Pk t_Pk o_Pk n_Pk hown hK hP hD hS 0 rfl rfl 3 (by decide) (hts _ m_109) (fun _ h9 => h9) rfl hin rfl (by decide +kernel) rfl rfl (Nat.le_of_ble_eq_true rfl) d_Pk_init_32 (fun H locs hP hD hS => ?_)
  have hP : va_P D vwCl [(h0, .inr (4, [.ref q1, .ref q2, .ref q3, .ref q4, .int 0, .int 0, .int 0, .long 0])), (q1, .inl (cI, 3, .inl (fun _ => 0))), (q2, .inl (cI, 6, .inl (fun _ => 0))), (q3, .inl (cI, 6, .inl (fun _ => 0))), (q4, .inl (cI, 6, .inl (fun _ => 0)))] H := hP
  have hD : va_D A [(h0, .inr (4, [.ref q1, .ref q2, .ref q3, .ref q4, .int 0, .int 0, .int 0, .long 0])), (q1, .inl (cI, 3, .inl (fun _ => 0))), (q2, .inl (cI, 6, .inl (fun _ => 0))), (q3, .inl (cI, 6, .inl (fun _ => 0))), (q4, .inl (cI, 6, .inl (fun _ => 0)))] := hD
  refine lv_aload_n hx hb d_Pk_init_35 rfl (lv_at hl 0 rfl) ?_
  refine lv_iconst (v := 0) hx hb d_Pk_init_36 (by decide) ?_
  refine va_put (D := D) (ci := 4) (v := .int 0) (ty := .boolean) (C := R_Pk) (T := F_Pk) (N := 8) hx hb hts i_Pk t_Pk o_Pk n_Pk hown hK hP hD hS 0 rfl rfl 4 (by decide) (hts _ m_110) (fun _ h9 => h9) rfl (by decide +kernel) rfl rfl (Nat.le_of_ble_eq_true rfl) d_Pk_init_37 (fun H locs hP hD hS => ?_)
  have hP : va_P D vwCl [(h0, .inr (4, [.ref q1, .ref q2, .ref q3, .ref q4, .int 0, .int 0, .int 0, .long 0])), (q1, .inl (cI, 3, .inl (fun _ => 0))), (q2, .inl (cI, 6, .inl (fun _ => 0))), (q3, .inl (cI, 6, .inl (fun _ => 0))), (q4, .inl (cI, 6, .inl (fun _ => 0)))] H := hP
  have hD : va_D A [(h0, .inr (4, [.ref q1, .ref q2, .ref q3, .ref q4, .int 0, .int 0, .int 0, .long 0])), (q1, .inl (cI, 3, .inl (fun _ => 0))), (q2, .inl (cI, 6, .inl (fun _ => 0))), (q3, .inl (cI, 6, .inl (fun _ => 0))), (q4, .inl (cI, 6, .inl (fun _ => 0)))] := hD
  rw [hQ]
  exact mn_ret (S := Nat → Nat) (fun k => match k with | 0 => h0 | 1 => q1 | 2 => q2 | 3 => q3 | _ => q4) rfl C0 hr hlk hP hD hS (Nat.le_of_ble_eq_true rfl) (Nat.le_of_ble_eq_true rfl) d_Pk_init_40
def gSk0 : St := fun k => match k with | 0 => fun _ => 0 | _ => fun _ => 0
abbrev rm_Sk_init : Room := { frames := 1, cells := 4, slots := 40, locals := 12 }
set_option maxRecDepth 100000 in
set_option maxHeartbeats 4000000 in
theorem c_Sk_init (l : Launch) (D : va_G) (cI cZ cJ : ClassId) (h0 sz : Nat) : MN l y_Sk_init b_Sk_init 1 rm_Sk_init D (TYS cI cZ cJ) [.ref h0] [(h0, .inr (6, [.null, .null, .null, .null, .int 0]))] sz (fun x : Nat → Nat => x 0 = h0) (fun x : Nat → Nat => wSk x cI cZ gSk0) 4 40 := by
  refine mn_start (own := R_Sk) (by decide +kernel) rfl (Nat.le_of_ble_eq_true rfl) (fun p e s m args below meth c A ls C0 hr hlk hin hP hD hS hl => ?_)
  obtain ⟨Q, hQ⟩ : ∃ Q, Q = QN below D (TYS cI cZ cJ) A (fun x : Nat → Nat => x 0 = h0) (fun x : Nat → Nat => wSk x cI cZ gSk0) 4 40 args s := ⟨_, rfl⟩
  rw [← hQ]
  obtain ⟨hx, hb, -, hown, hts, hK, hE, hA⟩ := id C0
  have hl : lv_has ls 1 [(0, .ref h0)] := hl
  obtain ⟨H, hH⟩ : ∃ H, H = s.heap := ⟨_, rfl⟩
  have hP : va_P D vwCl [(h0, .inr (6, [.null, .null, .null, .null, .int 0]))] H := by rw [hH]; exact hP
  have hS : va_S A s.heap H [] := by rw [hH]; exact hS
  rw [show W p l e rm_Sk_init s m args below meth c s.heap = W p l e rm_Sk_init s m args below meth c H by rw [hH]]
  generalize ([] : List Loc) = locs at hS ⊢
  refine lv_aload_n hx hb d_Sk_init_0 rfl (lv_at hl 0 rfl) ?_
  refine W.objInit hx hb hown (hts _ m_136) (hts _ m_47) (hts _ m_48) rfl (by rw [C0.2.2.1]; exact hl.1) rfl d_Sk_init_1 (Nat.le_of_ble_eq_true rfl) (Nat.le_of_ble_eq_true rfl) ?_
  refine W.eq (g2 := F0 m 4 ls []) rfl ?_
  refine lv_aload_n hx hb d_Sk_init_4 rfl (lv_at hl 0 rfl) ?_
  refine lv_bipush (v := 10) hx hb d_Sk_init_5 (by decide) ?_
  refine n_I C0 hP hD hS 10 (by decide) (by decide) (by decide) (Nat.le_of_ble_eq_true rfl) (Nat.le_of_ble_eq_true rfl) d_Sk_init_7 (fun q1 H hP hD hS => ?_)
  have hP : va_P D vwCl [(h0, .inr (6, [.null, .null, .null, .null, .int 0])), (q1, .inl (cI, 10, .inl (fun _ => 0)))] H := hP
  have hD : va_D A [(h0, .inr (6, [.null, .null, .null, .null, .int 0])), (q1, .inl (cI, 10, .inl (fun _ => 0)))] := hD
  refine va_putF (D := D) (ci := 6) (v := .ref q1) (ty := (t_Sk 0)) (C := R_Sk) (T := F_Sk) (N := 5) hx hb hts i_Sk t_Sk o_Sk n_Sk hown hK hP hD hS 0 rfl rfl 0 (by decide) (hts _ m_137) (fun _ h9 => h9) rfl hin rfl (by decide +kernel) rfl rfl (Nat.le_of_ble_eq_true rfl) d_Sk_init_9 (fun H locs hP hD hS => ?_)
  have hP : va_P D vwCl [(h0, .inr (6, [.ref q1, .null, .null, .null, .int 0])), (q1, .inl (cI, 10, .inl (fun _ => 0)))] H := hP
  have hD : va_D A [(h0, .inr (6, [.ref q1, .null, .null, .null, .int 0])), (q1, .inl (cI, 10, .inl (fun _ => 0)))] := hD
  refine lv_aload_n hx hb d_Sk_init_12 rfl (lv_at hl 0 rfl) ?_
  refine lv_bipush (v := 10) hx hb d_Sk_init_13 (by decide) ?_
  refine n_I C0 hP hD hS 10 (by decide) (by decide) (by decide) (Nat.le_of_ble_eq_true rfl) (Nat.le_of_ble_eq_true rfl) d_Sk_init_15 (fun q2 H hP hD hS => ?_)
  have hP : va_P D vwCl [(h0, .inr (6, [.ref q1, .null, .null, .null, .int 0])), (q1, .inl (cI, 10, .inl (fun _ => 0))), (q2, .inl (cI, 10, .inl (fun _ => 0)))] H := hP
  have hD : va_D A [(h0, .inr (6, [.ref q1, .null, .null, .null, .int 0])), (q1, .inl (cI, 10, .inl (fun _ => 0))), (q2, .inl (cI, 10, .inl (fun _ => 0)))] := hD
  refine va_putF (D := D) (ci := 6) (v := .ref q2) (ty := (t_Sk 1)) (C := R_Sk) (T := F_Sk) (N := 5) hx hb hts i_Sk t_Sk o_Sk n_Sk hown hK hP hD hS 0 rfl rfl 1 (by decide) (hts _ m_138) (fun _ h9 => h9) rfl hin rfl (by decide +kernel) rfl rfl (Nat.le_of_ble_eq_true rfl) d_Sk_init_17 (fun H locs hP hD hS => ?_)
  have hP : va_P D vwCl [(h0, .inr (6, [.ref q1, .ref q2, .null, .null, .int 0])), (q1, .inl (cI, 10, .inl (fun _ => 0))), (q2, .inl (cI, 10, .inl (fun _ => 0)))] H := hP
  have hD : va_D A [(h0, .inr (6, [.ref q1, .ref q2, .null, .null, .int 0])), (q1, .inl (cI, 10, .inl (fun _ => 0))), (q2, .inl (cI, 10, .inl (fun _ => 0)))] := hD
  refine lv_aload_n hx hb d_Sk_init_20 rfl (lv_at hl 0 rfl) ?_
  refine lv_bipush (v := 10) hx hb d_Sk_init_21 (by decide) ?_
  refine n_I C0 hP hD hS 10 (by decide) (by decide) (by decide) (Nat.le_of_ble_eq_true rfl) (Nat.le_of_ble_eq_true rfl) d_Sk_init_23 (fun q3 H hP hD hS => ?_)
  have hP : va_P D vwCl [(h0, .inr (6, [.ref q1, .ref q2, .null, .null, .int 0])), (q1, .inl (cI, 10, .inl (fun _ => 0))), (q2, .inl (cI, 10, .inl (fun _ => 0))), (q3, .inl (cI, 10, .inl (fun _ => 0)))] H := hP
  have hD : va_D A [(h0, .inr (6, [.ref q1, .ref q2, .null, .null, .int 0])), (q1, .inl (cI, 10, .inl (fun _ => 0))), (q2, .inl (cI, 10, .inl (fun _ => 0))), (q3, .inl (cI, 10, .inl (fun _ => 0)))] := hD
  refine va_putF (D := D) (ci := 6) (v := .ref q3) (ty := (t_Sk 2)) (C := R_Sk) (T := F_Sk) (N := 5) hx hb hts i_Sk t_Sk o_Sk n_Sk hown hK hP hD hS 0 rfl rfl 2 (by decide) (hts _ m_139) (fun _ h9 => h9) rfl hin rfl (by decide +kernel) rfl rfl (Nat.le_of_ble_eq_true rfl) d_Sk_init_25 (fun H locs hP hD hS => ?_)
  have hP : va_P D vwCl [(h0, .inr (6, [.ref q1, .ref q2, .ref q3, .null, .int 0])), (q1, .inl (cI, 10, .inl (fun _ => 0))), (q2, .inl (cI, 10, .inl (fun _ => 0))), (q3, .inl (cI, 10, .inl (fun _ => 0)))] H := hP
  have hD : va_D A [(h0, .inr (6, [.ref q1, .ref q2, .ref q3, .null, .int 0])), (q1, .inl (cI, 10, .inl (fun _ => 0))), (q2, .inl (cI, 10, .inl (fun _ => 0))), (q3, .inl (cI, 10, .inl (fun _ => 0)))] := hD
  refine lv_aload_n hx hb d_Sk_init_28 rfl (lv_at hl 0 rfl) ?_
  refine lv_bipush (v := 10) hx hb d_Sk_init_29 (by decide) ?_
  refine n_Z C0 hP hD hS 10 (by decide) (by decide) (by decide) (Nat.le_of_ble_eq_true rfl) (Nat.le_of_ble_eq_true rfl) d_Sk_init_31 (fun q4 H hP hD hS => ?_)
  have hP : va_P D vwCl [(h0, .inr (6, [.ref q1, .ref q2, .ref q3, .null, .int 0])), (q1, .inl (cI, 10, .inl (fun _ => 0))), (q2, .inl (cI, 10, .inl (fun _ => 0))), (q3, .inl (cI, 10, .inl (fun _ => 0))), (q4, .inl (cZ, 10, .inl (fun _ => 0)))] H := hP
  have hD : va_D A [(h0, .inr (6, [.ref q1, .ref q2, .ref q3, .null, .int 0])), (q1, .inl (cI, 10, .inl (fun _ => 0))), (q2, .inl (cI, 10, .inl (fun _ => 0))), (q3, .inl (cI, 10, .inl (fun _ => 0))), (q4, .inl (cZ, 10, .inl (fun _ => 0)))] := hD
  refine va_putF (D := D) (ci := 6) (v := .ref q4) (ty := (t_Sk 3)) (C := R_Sk) (T := F_Sk) (N := 5) hx hb hts i_Sk t_Sk o_Sk n_Sk hown hK hP hD hS 0 rfl rfl 3 (by decide) (hts _ m_140) (fun _ h9 => h9) rfl hin rfl (by decide +kernel) rfl rfl (Nat.le_of_ble_eq_true rfl) d_Sk_init_33 (fun H locs hP hD hS => ?_)
  have hP : va_P D vwCl [(h0, .inr (6, [.ref q1, .ref q2, .ref q3, .ref q4, .int 0])), (q1, .inl (cI, 10, .inl (fun _ => 0))), (q2, .inl (cI, 10, .inl (fun _ => 0))), (q3, .inl (cI, 10, .inl (fun _ => 0))), (q4, .inl (cZ, 10, .inl (fun _ => 0)))] H := hP
  have hD : va_D A [(h0, .inr (6, [.ref q1, .ref q2, .ref q3, .ref q4, .int 0])), (q1, .inl (cI, 10, .inl (fun _ => 0))), (q2, .inl (cI, 10, .inl (fun _ => 0))), (q3, .inl (cI, 10, .inl (fun _ => 0))), (q4, .inl (cZ, 10, .inl (fun _ => 0)))] := hD
  refine lv_aload_n hx hb d_Sk_init_36 rfl (lv_at hl 0 rfl) ?_
  refine lv_iconst (v := 0) hx hb d_Sk_init_37 (by decide) ?_
  refine va_put (D := D) (ci := 6) (v := .int 0) (ty := .int) (C := R_Sk) (T := F_Sk) (N := 5) hx hb hts i_Sk t_Sk o_Sk n_Sk hown hK hP hD hS 0 rfl rfl 4 (by decide) (hts _ m_141) (fun _ h9 => h9) rfl (by decide +kernel) rfl rfl (Nat.le_of_ble_eq_true rfl) d_Sk_init_38 (fun H locs hP hD hS => ?_)
  have hP : va_P D vwCl [(h0, .inr (6, [.ref q1, .ref q2, .ref q3, .ref q4, .int 0])), (q1, .inl (cI, 10, .inl (fun _ => 0))), (q2, .inl (cI, 10, .inl (fun _ => 0))), (q3, .inl (cI, 10, .inl (fun _ => 0))), (q4, .inl (cZ, 10, .inl (fun _ => 0)))] H := hP
  have hD : va_D A [(h0, .inr (6, [.ref q1, .ref q2, .ref q3, .ref q4, .int 0])), (q1, .inl (cI, 10, .inl (fun _ => 0))), (q2, .inl (cI, 10, .inl (fun _ => 0))), (q3, .inl (cI, 10, .inl (fun _ => 0))), (q4, .inl (cZ, 10, .inl (fun _ => 0)))] := hD
  rw [hQ]
  exact mn_ret (S := Nat → Nat) (fun k => match k with | 0 => h0 | 1 => q1 | 2 => q2 | 3 => q3 | _ => q4) rfl C0 hr hlk hP hD hS (Nat.le_of_ble_eq_true rfl) (Nat.le_of_ble_eq_true rfl) d_Sk_init_41
def gAi0 : St := fun k => match k with | 0 => fun f => if f = 2 then 4 else 0 | _ => fun _ => 0
abbrev rm_Ai_init : Room := { frames := 1, cells := 1, slots := 200, locals := 12 }
set_option maxRecDepth 100000 in
set_option maxHeartbeats 4000000 in
theorem c_Ai_init (l : Launch) (D : va_G) (cI cZ cJ : ClassId) (h0 sz : Nat) : MN l y_Ai_init b_Ai_init 1 rm_Ai_init D (TYS cI cZ cJ) [.ref h0] [(h0, .inr (0, [.null, .int 0, .int 0]))] sz (fun x : Nat → Nat => x 0 = h0) (fun x : Nat → Nat => wAi x cI cZ gAi0) 1 200 := by
  refine mn_start (own := R_Ai) (by decide +kernel) rfl (Nat.le_of_ble_eq_true rfl) (fun p e s m args below meth c A ls C0 hr hlk hin hP hD hS hl => ?_)
  obtain ⟨Q, hQ⟩ : ∃ Q, Q = QN below D (TYS cI cZ cJ) A (fun x : Nat → Nat => x 0 = h0) (fun x : Nat → Nat => wAi x cI cZ gAi0) 1 200 args s := ⟨_, rfl⟩
  rw [← hQ]
  obtain ⟨hx, hb, -, hown, hts, hK, hE, hA⟩ := id C0
  have hl : lv_has ls 1 [(0, .ref h0)] := hl
  obtain ⟨H, hH⟩ : ∃ H, H = s.heap := ⟨_, rfl⟩
  have hP : va_P D vwCl [(h0, .inr (0, [.null, .int 0, .int 0]))] H := by rw [hH]; exact hP
  have hS : va_S A s.heap H [] := by rw [hH]; exact hS
  rw [show W p l e rm_Ai_init s m args below meth c s.heap = W p l e rm_Ai_init s m args below meth c H by rw [hH]]
  generalize ([] : List Loc) = locs at hS ⊢
  refine lv_aload_n hx hb d_Ai_init_0 rfl (lv_at hl 0 rfl) ?_
  refine W.objInit hx hb hown (hts _ m_160) (hts _ m_47) (hts _ m_48) rfl (by rw [C0.2.2.1]; exact hl.1) rfl d_Ai_init_1 (Nat.le_of_ble_eq_true rfl) (Nat.le_of_ble_eq_true rfl) ?_
  refine W.eq (g2 := F0 m 4 ls []) rfl ?_
  refine lv_aload_n hx hb d_Ai_init_4 rfl (lv_at hl 0 rfl) ?_
  refine lv_sipush (v := 200) hx hb d_Ai_init_5 (by decide) ?_
  refine n_I C0 hP hD hS 200 (by decide) (by decide) (by decide) (Nat.le_of_ble_eq_true rfl) (Nat.le_of_ble_eq_true rfl) d_Ai_init_8 (fun q1 H hP hD hS => ?_)
  have hP : va_P D vwCl [(h0, .inr (0, [.null, .int 0, .int 0])), (q1, .inl (cI, 200, .inl (fun _ => 0)))] H := hP
  have hD : va_D A [(h0, .inr (0, [.null, .int 0, .int 0])), (q1, .inl (cI, 200, .inl (fun _ => 0)))] := hD
  refine va_putF (D := D) (ci := 0) (v := .ref q1) (ty := (t_Ai 0)) (C := R_Ai) (T := F_Ai) (N := 3) hx hb hts i_Ai t_Ai o_Ai n_Ai hown hK hP hD hS 0 rfl rfl 0 (by decide) (hts _ m_161) (fun _ h9 => h9) rfl hin rfl (by decide +kernel) rfl rfl (Nat.le_of_ble_eq_true rfl) d_Ai_init_10 (fun H locs hP hD hS => ?_)
  have hP : va_P D vwCl [(h0, .inr (0, [.ref q1, .int 0, .int 0])), (q1, .inl (cI, 200, .inl (fun _ => 0)))] H := hP
  have hD : va_D A [(h0, .inr (0, [.ref q1, .int 0, .int 0])), (q1, .inl (cI, 200, .inl (fun _ => 0)))] := hD
  refine lv_aload_n hx hb d_Ai_init_13 rfl (lv_at hl 0 rfl) ?_
  refine lv_iconst (v := 0) hx hb d_Ai_init_14 (by decide) ?_
  refine va_put (D := D) (ci := 0) (v := .int 0) (ty := .int) (C := R_Ai) (T := F_Ai) (N := 3) hx hb hts i_Ai t_Ai o_Ai n_Ai hown hK hP hD hS 0 rfl rfl 1 (by decide) (hts _ m_162) (fun _ h9 => h9) rfl (by decide +kernel) rfl rfl (Nat.le_of_ble_eq_true rfl) d_Ai_init_15 (fun H locs hP hD hS => ?_)
  have hP : va_P D vwCl [(h0, .inr (0, [.ref q1, .int 0, .int 0])), (q1, .inl (cI, 200, .inl (fun _ => 0)))] H := hP
  have hD : va_D A [(h0, .inr (0, [.ref q1, .int 0, .int 0])), (q1, .inl (cI, 200, .inl (fun _ => 0)))] := hD
  refine lv_aload_n hx hb d_Ai_init_18 rfl (lv_at hl 0 rfl) ?_
  refine lv_iconst (v := 4) hx hb d_Ai_init_19 (by decide) ?_
  refine va_put (D := D) (ci := 0) (v := .int 4) (ty := .int) (C := R_Ai) (T := F_Ai) (N := 3) hx hb hts i_Ai t_Ai o_Ai n_Ai hown hK hP hD hS 0 rfl rfl 2 (by decide) (hts _ m_164) (fun _ h9 => h9) rfl (by decide +kernel) rfl rfl (Nat.le_of_ble_eq_true rfl) d_Ai_init_20 (fun H locs hP hD hS => ?_)
  have hP : va_P D vwCl [(h0, .inr (0, [.ref q1, .int 0, .int 4])), (q1, .inl (cI, 200, .inl (fun _ => 0)))] H := hP
  have hD : va_D A [(h0, .inr (0, [.ref q1, .int 0, .int 4])), (q1, .inl (cI, 200, .inl (fun _ => 0)))] := hD
  rw [hQ]
  exact mn_ret (S := Nat → Nat) (fun k => match k with | 0 => h0 | _ => q1) rfl C0 hr hlk hP hD hS (Nat.le_of_ble_eq_true rfl) (Nat.le_of_ble_eq_true rfl) d_Ai_init_23
def gSh0 : St := fun k => match k with | 0 => fun f => if f = 0 then 10000 else if f = 1 then 10000 else 0 | _ => fun _ => 0
abbrev rm_Sh_init : Room := { frames := 1, cells := 0, slots := 0, locals := 12 }
set_option maxRecDepth 100000 in
set_option maxHeartbeats 4000000 in
theorem c_Sh_init (l : Launch) (D : va_G) (cI cZ cJ : ClassId) (h0 sz : Nat) : MN l y_Sh_init b_Sh_init 1 rm_Sh_init D (TYS cI cZ cJ) [.ref h0] [(h0, .inr (5, [.int 0, .int 0, .int 0, .int 0]))] sz (fun x : Nat → Nat => x 0 = h0) (fun x : Nat → Nat => wSh x cI cZ gSh0) 0 0 := by
  refine mn_start (own := R_Sh) (by decide +kernel) rfl (Nat.le_of_ble_eq_true rfl) (fun p e s m args below meth c A ls C0 hr hlk hin hP hD hS hl => ?_)
  obtain ⟨Q, hQ⟩ : ∃ Q, Q = QN below D (TYS cI cZ cJ) A (fun x : Nat → Nat => x 0 = h0) (fun x : Nat → Nat => wSh x cI cZ gSh0) 0 0 args s := ⟨_, rfl⟩
  rw [← hQ]
  obtain ⟨hx, hb, -, hown, hts, hK, hE, hA⟩ := id C0
  have hl : lv_has ls 1 [(0, .ref h0)] := hl
  obtain ⟨H, hH⟩ : ∃ H, H = s.heap := ⟨_, rfl⟩
  have hP : va_P D vwCl [(h0, .inr (5, [.int 0, .int 0, .int 0, .int 0]))] H := by rw [hH]; exact hP
  have hS : va_S A s.heap H [] := by rw [hH]; exact hS
  rw [show W p l e rm_Sh_init s m args below meth c s.heap = W p l e rm_Sh_init s m args below meth c H by rw [hH]]
  generalize ([] : List Loc) = locs at hS ⊢
  refine lv_aload_n hx hb d_Sh_init_0 rfl (lv_at hl 0 rfl) ?_
  refine W.objInit hx hb hown (hts _ m_177) (hts _ m_47) (hts _ m_48) rfl (by rw [C0.2.2.1]; exact hl.1) rfl d_Sh_init_1 (Nat.le_of_ble_eq_true rfl) (Nat.le_of_ble_eq_true rfl) ?_
  refine W.eq (g2 := F0 m 4 ls []) rfl ?_
  refine lv_aload_n hx hb d_Sh_init_4 rfl (lv_at hl 0 rfl) ?_
  refine lv_sipush (v := 10000) hx hb d_Sh_init_5 (by decide) ?_
  refine va_put (D := D) (ci := 5) (v := .int 10000) (ty := .int) (C := R_Sh) (T := F_Sh) (N := 4) hx hb hts i_Sh t_Sh o_Sh n_Sh hown hK hP hD hS 0 rfl rfl 0 (by decide) (hts _ m_178) (fun _ h9 => h9) rfl (by decide +kernel) rfl rfl (Nat.le_of_ble_eq_true rfl) d_Sh_init_8 (fun H locs hP hD hS => ?_)
  have hP : va_P D vwCl [(h0, .inr (5, [.int 10000, .int 0, .int 0, .int 0]))] H := hP
  have hD : va_D A [(h0, .inr (5, [.int 10000, .int 0, .int 0, .int 0]))] := hD
  refine lv_aload_n hx hb d_Sh_init_11 rfl (lv_at hl 0 rfl) ?_
  refine lv_sipush (v := 10000) hx hb d_Sh_init_12 (by decide) ?_
  refine va_put (D := D) (ci := 5) (v := .int 10000) (ty := .int) (C := R_Sh) (T := F_Sh) (N := 4) hx hb hts i_Sh t_Sh o_Sh n_Sh hown hK hP hD hS 0 rfl rfl 1 (by decide) (hts _ m_179) (fun _ h9 => h9) rfl (by decide +kernel) rfl rfl (Nat.le_of_ble_eq_true rfl) d_Sh_init_15 (fun H locs hP hD hS => ?_)
  have hP : va_P D vwCl [(h0, .inr (5, [.int 10000, .int 10000, .int 0, .int 0]))] H := hP
  have hD : va_D A [(h0, .inr (5, [.int 10000, .int 10000, .int 0, .int 0]))] := hD
  refine lv_aload_n hx hb d_Sh_init_18 rfl (lv_at hl 0 rfl) ?_
  refine lv_iconst (v := 0) hx hb d_Sh_init_19 (by decide) ?_
  refine va_put (D := D) (ci := 5) (v := .int 0) (ty := .int) (C := R_Sh) (T := F_Sh) (N := 4) hx hb hts i_Sh t_Sh o_Sh n_Sh hown hK hP hD hS 0 rfl rfl 2 (by decide) (hts _ m_180) (fun _ h9 => h9) rfl (by decide +kernel) rfl rfl (Nat.le_of_ble_eq_true rfl) d_Sh_init_20 (fun H locs hP hD hS => ?_)
  have hP : va_P D vwCl [(h0, .inr (5, [.int 10000, .int 10000, .int 0, .int 0]))] H := hP
  have hD : va_D A [(h0, .inr (5, [.int 10000, .int 10000, .int 0, .int 0]))] := hD
  refine lv_aload_n hx hb d_Sh_init_23 rfl (lv_at hl 0 rfl) ?_
  refine lv_iconst (v := 0) hx hb d_Sh_init_24 (by decide) ?_
  refine va_put (D := D) (ci := 5) (v := .int 0) (ty := .int) (C := R_Sh) (T := F_Sh) (N := 4) hx hb hts i_Sh t_Sh o_Sh n_Sh hown hK hP hD hS 0 rfl rfl 3 (by decide) (hts _ m_182) (fun _ h9 => h9) rfl (by decide +kernel) rfl rfl (Nat.le_of_ble_eq_true rfl) d_Sh_init_25 (fun H locs hP hD hS => ?_)
  have hP : va_P D vwCl [(h0, .inr (5, [.int 10000, .int 10000, .int 0, .int 0]))] H := hP
  have hD : va_D A [(h0, .inr (5, [.int 10000, .int 10000, .int 0, .int 0]))] := hD
  rw [hQ]
  exact mn_ret (S := Nat → Nat) (fun _ => h0) rfl C0 hr hlk hP hD hS (Nat.le_of_ble_eq_true rfl) (Nat.le_of_ble_eq_true rfl) d_Sh_init_28
def gJo0 : St := fun k => match k with | 0 => fun _ => 0 | _ => fun _ => 0
abbrev rm_Jo_init : Room := { frames := 1, cells := 1, slots := 50, locals := 12 }
set_option maxRecDepth 100000 in
set_option maxHeartbeats 4000000 in
theorem c_Jo_init (l : Launch) (D : va_G) (cI cZ cJ : ClassId) (h0 sz : Nat) : MN l y_Jo_init b_Jo_init 1 rm_Jo_init D (TYS cI cZ cJ) [.ref h0] [(h0, .inr (3, [.null, .int 0]))] sz (fun x : Nat → Nat => x 0 = h0) (fun x : Nat → Nat => wJo x cI cZ gJo0) 1 50 := by
  refine mn_start (own := R_Jo) (by decide +kernel) rfl (Nat.le_of_ble_eq_true rfl) (fun p e s m args below meth c A ls C0 hr hlk hin hP hD hS hl => ?_)
  obtain ⟨Q, hQ⟩ : ∃ Q, Q = QN below D (TYS cI cZ cJ) A (fun x : Nat → Nat => x 0 = h0) (fun x : Nat → Nat => wJo x cI cZ gJo0) 1 50 args s := ⟨_, rfl⟩
  rw [← hQ]
  obtain ⟨hx, hb, -, hown, hts, hK, hE, hA⟩ := id C0
  have hl : lv_has ls 1 [(0, .ref h0)] := hl
  obtain ⟨H, hH⟩ : ∃ H, H = s.heap := ⟨_, rfl⟩
  have hP : va_P D vwCl [(h0, .inr (3, [.null, .int 0]))] H := by rw [hH]; exact hP
  have hS : va_S A s.heap H [] := by rw [hH]; exact hS
  rw [show W p l e rm_Jo_init s m args below meth c s.heap = W p l e rm_Jo_init s m args below meth c H by rw [hH]]
  generalize ([] : List Loc) = locs at hS ⊢
  refine lv_aload_n hx hb d_Jo_init_0 rfl (lv_at hl 0 rfl) ?_
  refine W.objInit hx hb hown (hts _ m_198) (hts _ m_47) (hts _ m_48) rfl (by rw [C0.2.2.1]; exact hl.1) rfl d_Jo_init_1 (Nat.le_of_ble_eq_true rfl) (Nat.le_of_ble_eq_true rfl) ?_
  refine W.eq (g2 := F0 m 4 ls []) rfl ?_
  refine lv_aload_n hx hb d_Jo_init_4 rfl (lv_at hl 0 rfl) ?_
  refine lv_bipush (v := 50) hx hb d_Jo_init_5 (by decide) ?_
  refine n_I C0 hP hD hS 50 (by decide) (by decide) (by decide) (Nat.le_of_ble_eq_true rfl) (Nat.le_of_ble_eq_true rfl) d_Jo_init_7 (fun q1 H hP hD hS => ?_)
  have hP : va_P D vwCl [(h0, .inr (3, [.null, .int 0])), (q1, .inl (cI, 50, .inl (fun _ => 0)))] H := hP
  have hD : va_D A [(h0, .inr (3, [.null, .int 0])), (q1, .inl (cI, 50, .inl (fun _ => 0)))] := hD
  refine va_putF (D := D) (ci := 3) (v := .ref q1) (ty := (t_Jo 0)) (C := R_Jo) (T := F_Jo) (N := 2) hx hb hts i_Jo t_Jo o_Jo n_Jo hown hK hP hD hS 0 rfl rfl 0 (by decide) (hts _ m_199) (fun _ h9 => h9) rfl hin rfl (by decide +kernel) rfl rfl (Nat.le_of_ble_eq_true rfl) d_Jo_init_9 (fun H locs hP hD hS => ?_)
  have hP : va_P D vwCl [(h0, .inr (3, [.ref q1, .int 0])), (q1, .inl (cI, 50, .inl (fun _ => 0)))] H := hP
  have hD : va_D A [(h0, .inr (3, [.ref q1, .int 0])), (q1, .inl (cI, 50, .inl (fun _ => 0)))] := hD
  refine lv_aload_n hx hb d_Jo_init_12 rfl (lv_at hl 0 rfl) ?_
  refine lv_iconst (v := 0) hx hb d_Jo_init_13 (by decide) ?_
  refine va_put (D := D) (ci := 3) (v := .int 0) (ty := .int) (C := R_Jo) (T := F_Jo) (N := 2) hx hb hts i_Jo t_Jo o_Jo n_Jo hown hK hP hD hS 0 rfl rfl 1 (by decide) (hts _ m_200) (fun _ h9 => h9) rfl (by decide +kernel) rfl rfl (Nat.le_of_ble_eq_true rfl) d_Jo_init_14 (fun H locs hP hD hS => ?_)
  have hP : va_P D vwCl [(h0, .inr (3, [.ref q1, .int 0])), (q1, .inl (cI, 50, .inl (fun _ => 0)))] H := hP
  have hD : va_D A [(h0, .inr (3, [.ref q1, .int 0])), (q1, .inl (cI, 50, .inl (fun _ => 0)))] := hD
  rw [hQ]
  exact mn_ret (S := Nat → Nat) (fun k => match k with | 0 => h0 | _ => q1) rfl C0 hr hlk hP hD hS (Nat.le_of_ble_eq_true rfl) (Nat.le_of_ble_eq_true rfl) d_Jo_init_17
