section
-- ===== PART A: goes FIRST, ahead of the names: the tables' words, and 'selects' of the private methods out of them =====
/-- a private method of a class that the tables say can be made, by its rows of tables_1 -/
def lw_okq (q : MethodName × Nat) : Prop := (q.1.cls ≠ "java/lang/invoke/MethodHandle" ∧ q.1.cls ≠ "java/lang/invoke/VarHandle") ∧ Cond.instantiable q.1.cls q.2 ∈ tables_1 ∧ Cond.privateMethod q.1 ∈ tables_1 ∧ Cond.instanceMethod q.1 ∈ tables_1
theorem lw_p0 : lw_okq (⟨"java/lang/Throwable", "fillInStackTrace", "(I)Ljava/lang/Throwable;"⟩, 6) := ⟨⟨by decide +kernel, by decide +kernel⟩, List.mem_of_getElem? (i := 261) (by decide +kernel), List.mem_of_getElem? (i := 259) (by decide +kernel), List.mem_of_getElem? (i := 260) (by decide +kernel)⟩
theorem lw_p1 : lw_okq (⟨"CrateCushions$Foams", "placeOf", "(II)I"⟩, 5) := ⟨⟨by decide +kernel, by decide +kernel⟩, List.mem_of_getElem? (i := 57) (by decide +kernel), List.mem_of_getElem? (i := 367) (by decide +kernel), List.mem_of_getElem? (i := 368) (by decide +kernel)⟩
theorem lw_p2 : lw_okq (⟨"CrateCushions$Foams", "valueBetween", "(III)I"⟩, 5) := ⟨⟨by decide +kernel, by decide +kernel⟩, List.mem_of_getElem? (i := 57) (by decide +kernel), List.mem_of_getElem? (i := 382) (by decide +kernel), List.mem_of_getElem? (i := 383) (by decide +kernel)⟩
theorem lw_p3 : lw_okq (⟨"CrateCushions$Packing", "findLeast", "(LCrateCushions$Goods;)V"⟩, 8) := ⟨⟨by decide +kernel, by decide +kernel⟩, List.mem_of_getElem? (i := 79) (by decide +kernel), List.mem_of_getElem? (i := 426) (by decide +kernel), List.mem_of_getElem? (i := 427) (by decide +kernel)⟩
theorem lw_p4 : lw_okq (⟨"CrateCushions$Packing", "tryWithin", "(LCrateCushions$Goods;II)V"⟩, 8) := ⟨⟨by decide +kernel, by decide +kernel⟩, List.mem_of_getElem? (i := 79) (by decide +kernel), List.mem_of_getElem? (i := 431) (by decide +kernel), List.mem_of_getElem? (i := 432) (by decide +kernel)⟩
theorem lw_p5 : lw_okq (⟨"CrateCushions$Packing", "triedIsLower", "()Z"⟩, 8) := ⟨⟨by decide +kernel, by decide +kernel⟩, List.mem_of_getElem? (i := 79) (by decide +kernel), List.mem_of_getElem? (i := 450) (by decide +kernel), List.mem_of_getElem? (i := 451) (by decide +kernel)⟩
theorem lw_p6 : lw_okq (⟨"CrateCushions$Packing", "keep", "(III)V"⟩, 8) := ⟨⟨by decide +kernel, by decide +kernel⟩, List.mem_of_getElem? (i := 79) (by decide +kernel), List.mem_of_getElem? (i := 454) (by decide +kernel), List.mem_of_getElem? (i := 455) (by decide +kernel)⟩
theorem lw_p7 : lw_okq (⟨"CrateCushions$Packing", "placeInRow", "(LCrateCushions$Goods;)V"⟩, 8) := ⟨⟨by decide +kernel, by decide +kernel⟩, List.mem_of_getElem? (i := 79) (by decide +kernel), List.mem_of_getElem? (i := 461) (by decide +kernel), List.mem_of_getElem? (i := 462) (by decide +kernel)⟩
theorem lw_p8 : lw_okq (⟨"CrateCushions$Packing", "requirePacked", "()V"⟩, 8) := ⟨⟨by decide +kernel, by decide +kernel⟩, List.mem_of_getElem? (i := 79) (by decide +kernel), List.mem_of_getElem? (i := 483) (by decide +kernel), List.mem_of_getElem? (i := 484) (by decide +kernel)⟩
theorem lw_p9 : lw_okq (⟨"CrateCushions$Stock", "hasRoom", "(IIII)Z"⟩, 5) := ⟨⟨by decide +kernel, by decide +kernel⟩, List.mem_of_getElem? (i := 110) (by decide +kernel), List.mem_of_getElem? (i := 528) (by decide +kernel), List.mem_of_getElem? (i := 529) (by decide +kernel)⟩
theorem lw_p10 : lw_okq (⟨"CrateCushions$Goods", "partSet", "(II)V"⟩, 6) := ⟨⟨by decide +kernel, by decide +kernel⟩, List.mem_of_getElem? (i := 28) (by decide +kernel), List.mem_of_getElem? (i := 558) (by decide +kernel), List.mem_of_getElem? (i := 559) (by decide +kernel)⟩
theorem lw_p11 : lw_okq (⟨"CrateCushionsModel", "goes", "(ZZZ)Z"⟩, 31) := ⟨⟨by decide +kernel, by decide +kernel⟩, List.mem_of_getElem? (i := 677) (by decide +kernel), List.mem_of_getElem? (i := 789) (by decide +kernel), List.mem_of_getElem? (i := 790) (by decide +kernel)⟩
theorem lw_p12 : lw_okq (⟨"CrateCushionsModel", "isObject", "(I)Z"⟩, 31) := ⟨⟨by decide +kernel, by decide +kernel⟩, List.mem_of_getElem? (i := 677) (by decide +kernel), List.mem_of_getElem? (i := 797) (by decide +kernel), List.mem_of_getElem? (i := 798) (by decide +kernel)⟩
theorem lw_p13 : lw_okq (⟨"CrateCushionsModel", "isRow", "(II)Z"⟩, 31) := ⟨⟨by decide +kernel, by decide +kernel⟩, List.mem_of_getElem? (i := 677) (by decide +kernel), List.mem_of_getElem? (i := 809) (by decide +kernel), List.mem_of_getElem? (i := 810) (by decide +kernel)⟩
theorem lw_p14 : lw_okq (⟨"CrateCushionsModel", "valueOf", "(II)I"⟩, 31) := ⟨⟨by decide +kernel, by decide +kernel⟩, List.mem_of_getElem? (i := 677) (by decide +kernel), List.mem_of_getElem? (i := 817) (by decide +kernel), List.mem_of_getElem? (i := 818) (by decide +kernel)⟩
theorem lw_p15 : lw_okq (⟨"CrateCushionsModel", "turn", "(II)V"⟩, 31) := ⟨⟨by decide +kernel, by decide +kernel⟩, List.mem_of_getElem? (i := 677) (by decide +kernel), List.mem_of_getElem? (i := 836) (by decide +kernel), List.mem_of_getElem? (i := 837) (by decide +kernel)⟩
def lw_privs_1 : List (MethodName × Nat) := [(⟨"java/lang/Throwable", "fillInStackTrace", "(I)Ljava/lang/Throwable;"⟩, 6), (⟨"CrateCushions$Foams", "placeOf", "(II)I"⟩, 5), (⟨"CrateCushions$Foams", "valueBetween", "(III)I"⟩, 5), (⟨"CrateCushions$Packing", "findLeast", "(LCrateCushions$Goods;)V"⟩, 8), (⟨"CrateCushions$Packing", "tryWithin", "(LCrateCushions$Goods;II)V"⟩, 8), (⟨"CrateCushions$Packing", "triedIsLower", "()Z"⟩, 8), (⟨"CrateCushions$Packing", "keep", "(III)V"⟩, 8), (⟨"CrateCushions$Packing", "placeInRow", "(LCrateCushions$Goods;)V"⟩, 8), (⟨"CrateCushions$Packing", "requirePacked", "()V"⟩, 8), (⟨"CrateCushions$Stock", "hasRoom", "(IIII)Z"⟩, 5), (⟨"CrateCushions$Goods", "partSet", "(II)V"⟩, 6), (⟨"CrateCushionsModel", "goes", "(ZZZ)Z"⟩, 31), (⟨"CrateCushionsModel", "isObject", "(I)Z"⟩, 31), (⟨"CrateCushionsModel", "isRow", "(II)Z"⟩, 31), (⟨"CrateCushionsModel", "valueOf", "(II)I"⟩, 31), (⟨"CrateCushionsModel", "turn", "(II)V"⟩, 31)]
theorem lw_r1 : ∀ q ∈ lw_privs_1, lw_okq q := List.forall_mem_cons.mpr ⟨lw_p0, List.forall_mem_cons.mpr ⟨lw_p1, List.forall_mem_cons.mpr ⟨lw_p2, List.forall_mem_cons.mpr ⟨lw_p3, List.forall_mem_cons.mpr ⟨lw_p4, List.forall_mem_cons.mpr ⟨lw_p5, List.forall_mem_cons.mpr ⟨lw_p6, List.forall_mem_cons.mpr ⟨lw_p7, List.forall_mem_cons.mpr ⟨lw_p8, List.forall_mem_cons.mpr ⟨lw_p9, List.forall_mem_cons.mpr ⟨lw_p10, List.forall_mem_cons.mpr ⟨lw_p11, List.forall_mem_cons.mpr ⟨lw_p12, List.forall_mem_cons.mpr ⟨lw_p13, List.forall_mem_cons.mpr ⟨lw_p14, List.forall_mem_cons.mpr ⟨lw_p15, fun _ h => absurd h List.not_mem_nil⟩⟩⟩⟩⟩⟩⟩⟩⟩⟩⟩⟩⟩⟩⟩⟩
theorem lw_p16 : lw_okq (⟨"CrateCushionsModel", "stands", "(I)Z"⟩, 31) := ⟨⟨by decide +kernel, by decide +kernel⟩, List.mem_of_getElem? (i := 677) (by decide +kernel), List.mem_of_getElem? (i := 840) (by decide +kernel), List.mem_of_getElem? (i := 841) (by decide +kernel)⟩
theorem lw_p17 : lw_okq (⟨"CrateCushionsModel", "lengthOf", "(II)I"⟩, 31) := ⟨⟨by decide +kernel, by decide +kernel⟩, List.mem_of_getElem? (i := 677) (by decide +kernel), List.mem_of_getElem? (i := 844) (by decide +kernel), List.mem_of_getElem? (i := 845) (by decide +kernel)⟩
theorem lw_p18 : lw_okq (⟨"CrateCushionsModel", "along", "(III)I"⟩, 31) := ⟨⟨by decide +kernel, by decide +kernel⟩, List.mem_of_getElem? (i := 677) (by decide +kernel), List.mem_of_getElem? (i := 848) (by decide +kernel), List.mem_of_getElem? (i := 849) (by decide +kernel)⟩
theorem lw_p19 : lw_okq (⟨"CrateCushionsModel", "widest", "(III)I"⟩, 31) := ⟨⟨by decide +kernel, by decide +kernel⟩, List.mem_of_getElem? (i := 677) (by decide +kernel), List.mem_of_getElem? (i := 852) (by decide +kernel), List.mem_of_getElem? (i := 853) (by decide +kernel)⟩
theorem lw_p20 : lw_okq (⟨"CrateCushionsModel", "hasRoom", "(I)Z"⟩, 31) := ⟨⟨by decide +kernel, by decide +kernel⟩, List.mem_of_getElem? (i := 677) (by decide +kernel), List.mem_of_getElem? (i := 872) (by decide +kernel), List.mem_of_getElem? (i := 873) (by decide +kernel)⟩
theorem lw_p21 : lw_okq (⟨"CrateCushionsModel", "weight", "(I)I"⟩, 31) := ⟨⟨by decide +kernel, by decide +kernel⟩, List.mem_of_getElem? (i := 677) (by decide +kernel), List.mem_of_getElem? (i := 884) (by decide +kernel), List.mem_of_getElem? (i := 885) (by decide +kernel)⟩
def lw_privs_2 : List (MethodName × Nat) := [(⟨"CrateCushionsModel", "stands", "(I)Z"⟩, 31), (⟨"CrateCushionsModel", "lengthOf", "(II)I"⟩, 31), (⟨"CrateCushionsModel", "along", "(III)I"⟩, 31), (⟨"CrateCushionsModel", "widest", "(III)I"⟩, 31), (⟨"CrateCushionsModel", "hasRoom", "(I)Z"⟩, 31), (⟨"CrateCushionsModel", "weight", "(I)I"⟩, 31)]
theorem lw_r2 : ∀ q ∈ lw_privs_2, lw_okq q := List.forall_mem_cons.mpr ⟨lw_p16, List.forall_mem_cons.mpr ⟨lw_p17, List.forall_mem_cons.mpr ⟨lw_p18, List.forall_mem_cons.mpr ⟨lw_p19, List.forall_mem_cons.mpr ⟨lw_p20, List.forall_mem_cons.mpr ⟨lw_p21, fun _ h => absurd h List.not_mem_nil⟩⟩⟩⟩⟩⟩
def lw_privs : List (MethodName × Nat) := lw_privs_1 ++ (lw_privs_2)
def lw_tbl : List Cond := k2_sels lw_privs ++ tables_1
theorem lw_privs_ok : ∀ q ∈ lw_privs, lw_okq q := by
  show ∀ q ∈ lw_privs_1 ++ (lw_privs_2), lw_okq q
  exact List.forall_mem_append.mpr ⟨lw_r1, lw_r2⟩
-- ===== end of PART A; then your names; then what follows =====
end
section
/-! ===== BEGIN words of one list among another's, by their places ===== -/
theorem goodIn_r {big : List Cond} (ws : List Cond) (ps : List Nat) (hp : ws = ps.filterMap (fun i => big[i]?)) (h : ws.all goodWord = true) : GoodIn big ws := by
  intro w hw
  have h1 := List.all_eq_true.mp h w hw
  rw [hp] at hw
  obtain ⟨i, -, hi⟩ := List.mem_filterMap.mp hw
  have hm : w ∈ big := by first | exact List.mem_of_getElem? hi | exact List.getElem?_mem hi
  exact ⟨hm, good_of_word h1⟩
theorem goodIn_app {big a b : List Cond} (ha : GoodIn big a) (hb : GoodIn big b) : GoodIn big (a ++ b) := fun w h => (List.mem_append.mp h).elim (ha w) (hb w)
theorem goodIn_ca {big a b : List Cond} {c : Cond} (ha : GoodIn big (c :: a)) (hb : GoodIn big b) : GoodIn big (c :: (a ++ b)) := fun w h => (List.mem_cons.mp h).elim (fun e => ha w (List.mem_cons.mpr (Or.inl e))) (fun h => (List.mem_append.mp h).elim (fun h => ha w (List.mem_cons.mpr (Or.inr h))) (hb w))
theorem goodIn_sub {big ws : List Cond} (hm : ∀ w ∈ ws, w ∈ big) (h : ws.all goodWord = true) : GoodIn big ws := fun w hw => ⟨hm w hw, good_of_word (List.all_eq_true.mp h w hw)⟩
/-! ===== END ===== -/

/-! ===== BEGIN exceptions that leave a method, and their catching by the caller (launches without stack traces) ===== -/
section VXA
/-! The laws vx_back, vx_callV, vx_callS, vx_callSW, vx_throw0, vx_throwS follow proofs of the library, with one case more: JvmDerived/Free/Laws.lean (Back.of_free), Shelf42/LK1.lean (callV, callS), Shelf/KitTraced.lean (throwNew0V, throwNewS). -/
/-- where a method has thrown q: the class by its name, the cell, what was written, the world -/
def vx_T (XC : String → State → State → Prop) (st : State) (q : Addr) (t : State) (mc ms : Nat) (free : Addr → Prop) : Prop :=
  ∃ (E : String) (ce : Cell) (L : List Loc), XC E st t ∧ t.heap[q]? = some ce ∧ ce.vm = .none ∧ st.vm.findClass E = some ce.cls ∧ st.WarmedH t.vm ∧ st.sameButNew ({ t with vm := st.vm } : State) L mc ms ∧ ∀ z ∈ L, free z.base
def vx_Q (Qc : Array Value → State → Outcome → State → Prop) (XC : String → State → State → Prop) (mc ms : Nat) (free : Addr → Prop) : Array Value → State → Outcome → State → Prop := fun a st o t =>
  (Qc a st o t ∧ ∃ L, FrameEnd st o t L mc ms ∧ ∀ q ∈ L, free q.base) ∨ ∃ q, o = .threw q ∧ vx_T XC st q t mc ms free
/-- a callee that returns or throws -/
def vx_Met (l : Launch) (y : MethodName) (ws : List Cond) (rm : Room) (Pc : Array Value → State → Prop) (Qc : Array Value → State → Outcome → State → Prop) (XC : String → State → State → Prop) (mc ms : Nat) (free : Addr → Prop) : Prop :=
  MetFree l y (headSpec ws rm) Pc (fun _ _ _ _ _ => True) (vx_Q Qc XC mc ms free)
def vx_Post (XC : String → State → State → Prop) (mc ms : Nat) (free : Addr → Prop) : Pt → Array Value → Addr → Pt → Prop := fun A a q B =>
  ∃ (g : JFrame) (mk : MethodId) (t : State) (L : List Loc) (E : String) (ce : Cell), B.U.heap = t.heap ∧ B.U.vm = t.vm ∧ XC E (A.U.calling g mk a) t ∧ t.heap[q]? = some ce ∧ ce.vm = .none ∧ A.U.vm.findClass E = some ce.cls ∧ B.locs = A.locs ++ L ∧ (∀ z ∈ L, free z.base) ∧ B.cells = A.cells + mc ∧ B.slots = A.slots + ms
def vx_Back (l : Launch) (R : Room) (p : Program) (e : Env) (below : List Frame) (s : State) (sargs : Array Value) (y : MethodName) (len W9 : Nat)
    (Pre : Pt → Array Value → Prop) (Post : Pt → Array Value → Option Value → Pt → Prop) (PostX : Pt → Array Value → Addr → Pt → Prop) : Prop :=
  ∀ (m : MethodId) (meth : Method) (c : Code) (A : Pt) (g : JFrame) (ig : Instr) (mk : MethodId) (a : Array Value),
    Stand p l e R s m sargs below meth c A.U A.locs A.cells A.slots → g.method = m → g.locals.size = c.maxLocals → decode c.code g.pc = .ok (ig, len) →
    2 * g.monitorRoom + (g.stack.map fun v => v.category).sum ≤ W9 → A.U.methodNamed? y = some mk → Pre A a →
    (∃ (v : Option Value) (B : Pt), Stand p l e R s m sargs below meth c B.U B.locs B.cells B.slots ∧ Post A a v B ∧
      Steps p.tables e below (doInvoke e (A.U.setTop g) [] mk a).1 (B.U.setTop { g with pc := g.pc + len, stack := v.toList ++ g.stack })) ∨
    (∃ (q : Addr) (B : Pt), Stand p l e R s m sargs below meth c B.U B.locs B.cells B.slots ∧ PostX A a q B ∧
      Steps p.tables e below (doInvoke e (A.U.setTop g) [] mk a).1 ((B.U.setTop g).pushFrame (.throwing q)))
section Payer
variable {l : Launch} {R : Room} {p : Program} {e : Env} {below : List Frame} {s : State} {sargs : Array Value} {y : MethodName} {len W9 : Nat}
theorem vx_back {ws : List Cond} {rm : Room} {Pc : Array Value → State → Prop} {Qc : Array Value → State → Outcome → State → Prop} {XC : String → State → State → Prop} {mc ms : Nat} {free : Addr → Prop} {bytes : ByteArray} {maxL : Nat} {ret : Option FieldType}
    (hM : vx_Met l y ws rm Pc Qc XC mc ms free) (hblind : FrameBlind Pc) (hrc : rm.cells = mc) (hrs : rm.slots = ms)
    (hframes : rm.frames + 1 ≤ R.frames) (hlocals : W9 + (maxL + 11) + rm.locals ≤ R.locals)
    (hws : ∀ w ∈ ws, ∀ a' U, s.WarmedH U.vm → w.before a' U = true) (hcode : Cond.code y bytes maxL ret ∈ ws) (hinit : ∀ a' U, s.WarmedH U.vm → (Cond.initialized y.cls).before a' U = true) :
    vx_Back l R p e below s sargs y len W9 (PreOf R mc ms Pc) (PostOf Qc mc ms free) (vx_Post XC mc ms free) := by
  intro m meth c A g ig mk a X hg hsize hdg hW hn hp
  have h1 : (headSpec ws rm).pre.before a A.U = true := atoms_intro fun w hw => hws w hw _ _ X.warmed
  have h2 : (Cond.code y bytes maxL ret).before a A.U = true := hws _ hcode _ _ X.warmed
  have h3 : (Cond.initialized y.cls).before a A.U = true := hinit _ _ X.warmed
  have h4 : A.cells + (headSpec ws rm).room.cells ≤ R.cells := by rw [show (headSpec ws rm).room.cells = mc from hrc]; exact hp.1
  have h5 : A.slots + (headSpec ws rm).room.slots ≤ R.slots := by rw [show (headSpec ws rm).room.slots = ms from hrs]; exact hp.2.1
  have hPc : Pc a (A.U.calling g mk a) := hblind _ _ _ _ hp.2.2
  obtain ⟨U, Ls, c0, s0⟩ := A
  dsimp only [Pt.U, Pt.locs, Pt.cells, Pt.slots] at h1 h2 h3 h4 h5 X hn hPc ⊢
  obtain ⟨methY, cY, hmY, hcY, -, hlY, -, -, -, -⟩ := Cond.code_spec hn h2
  obtain ⟨kY, hkY, -⟩ := className_of_methodNamed hn
  have hinitY : kY.init = .initialized := Cond.initialized_spec (findClass_of_methodNamed hn) hkY h3
  have h : At U g.method c below := by rw [hg]; exact X.here
  have hlocals9 : W9 + (maxL + 11) + (headSpec ws rm).room.locals ≤ R.locals := hlocals
  have happ : (headSpec ws rm).appliesLoose y e.platform (U.calling g mk a) = true :=
    Spec.appliesLoose_calling (g := g) h hdg hn hkY hinitY
      (X.room_calling (g := g) (R' := (headSpec ws rm).room) hsize hmY hcY hframes (by rw [hlY]; omega) h4 h5) h1
  obtain ⟨mid, hmid⟩ := h.above
  have hfr : (U.setTop g).frames = (.java g :: mid) ++ below := by rw [State.frames_setTop' g h.top, hmid]; rfl
  obtain ⟨o, s₂, hsteps, -, hend, hq⟩ := Steps.callFree hM p X.admits X.cas X.clock (acts := []) hfr happ hPc trivial
  have hq' : vx_Q Qc XC mc ms free a (U.calling g mk a) o s₂ := hq
  rw [State.frames_setTop' g h.top] at hend
  obtain ⟨g₀, hg0⟩ := Option.isSome_iff_exists.mp h.top
  obtain ⟨r, hr⟩ := State.topJava?_eq_some.mp hg0
  have hr' : (({ U with heap := s₂.heap, slotsUsed := s₂.slotsUsed } : State).setVm s₂.vm).frames = .java g₀ :: r := hr
  rcases hq' with ⟨hqc, L, hfe, hL⟩ | ⟨q, rfl, E, ce, L, hx, hce, hcv, hcl, hW₂, hsm, hL⟩
  · obtain ⟨⟨v, rfl⟩, hW₂, e2, q2, q3, q4, q5, q6⟩ := id hfe
    have e3 : s₂ = ({ (U.calling g mk a).setFrames s₂.frames with heap := s₂.heap, slotsUsed := s₂.slotsUsed } : State).setVm s₂.vm := by
      have : s₂ = ({ s₂ with vm := (U.calling g mk a).vm } : State).setVm s₂.vm := rfl
      rw [e2] at this
      exact this
    obtain ⟨c₂, i₂, len₂, hc₂, hd₂, hf₂⟩ := hend
    have hW' : U.WarmedH s₂.vm := hW₂
    have hcc : c₂ = c := by
      have h1 : s₂.code? g.method = U.code? g.method := by
        rw [State.code?_eq, State.code?_eq, hW'.alike.method?]
      exact Option.some.inj (hc₂.symm.trans (h1.trans h.code))
    subst hcc
    have hlen : len₂ = len := by rw [hdg] at hd₂; cases hd₂; rfl
    subst hlen
    have hs₂ : s₂ = (({ U with heap := s₂.heap, slotsUsed := s₂.slotsUsed } : State).setVm s₂.vm).setTop { g with pc := g.pc + len₂, stack := v.toList ++ g.stack } := by
      refine e3.trans ?_
      rw [hf₂, State.calling_eq h.top, State.setFrames_setFrames, State.setTop_of_frames _ hr', hr]
      rfl
    have hsame : U.sameButNew ({ U with heap := s₂.heap, slotsUsed := s₂.slotsUsed } : State) L mc ms := by
      refine ⟨?_, q2, q3, q4, q5, q6⟩
      obtain ⟨t, ht, -⟩ := State.frames_cons hr
      show ({ U with heap := s₂.heap, slotsUsed := s₂.slotsUsed } : State) = { U.setFrames U.frames with heap := s₂.heap, slotsUsed := s₂.slotsUsed }
      rw [State.setFrames_self ht]
    subst hg
    refine Or.inl ⟨v, ⟨(({ U with heap := s₂.heap, slotsUsed := s₂.slotsUsed } : State).setVm s₂.vm), Ls ++ L, c0 + mc, s0 + ms⟩,
      ⟨X.admits, X.cas, X.clock, X.frames, X.room, X.hears, X.method, X.code, (X.here.setHeapUsed s₂.heap s₂.slotsUsed).setVm hW'.alike, X.tail, State.WarmedH.trans X.warmed hW', X.limits, X.bytes, X.same.trans (hsame.setVm s.vm)⟩,
      ⟨g, mk, s₂, L, rfl, rfl, hqc, rfl, hL, rfl, rfl⟩, ?_⟩
    show Steps p.tables e below _ ((({ U with heap := s₂.heap, slotsUsed := s₂.slotsUsed } : State).setVm s₂.vm).setTop { g with pc := g.pc + len₂, stack := v.toList ++ g.stack })
    rw [← hs₂]
    exact hsteps
  · obtain ⟨e2, q2, q3, q4, q5, q6⟩ := id hsm
    have e3 : s₂ = ({ (U.calling g mk a).setFrames s₂.frames with heap := s₂.heap, slotsUsed := s₂.slotsUsed } : State).setVm s₂.vm := by
      have : s₂ = ({ s₂ with vm := (U.calling g mk a).vm } : State).setVm s₂.vm := rfl
      rw [e2] at this
      exact this
    have hf₂ : s₂.frames = .throwing q :: .java g :: U.frames.tail := hend
    have hW' : U.WarmedH s₂.vm := hW₂
    have hs₂ : s₂ = ((({ U with heap := s₂.heap, slotsUsed := s₂.slotsUsed } : State).setVm s₂.vm).setTop g).pushFrame (.throwing q) := by
      refine e3.trans ?_
      rw [hf₂, State.calling_eq h.top, State.setFrames_setFrames, State.pushFrame, State.frames_setTop _ hr', State.setTop_of_frames _ hr', State.setFrames_setFrames, hr]
      rfl
    have hsame : U.sameButNew ({ U with heap := s₂.heap, slotsUsed := s₂.slotsUsed } : State) L mc ms := by
      refine ⟨?_, q2, q3, q4, q5, q6⟩
      obtain ⟨t, ht, -⟩ := State.frames_cons hr
      show ({ U with heap := s₂.heap, slotsUsed := s₂.slotsUsed } : State) = { U.setFrames U.frames with heap := s₂.heap, slotsUsed := s₂.slotsUsed }
      rw [State.setFrames_self ht]
    subst hg
    refine Or.inr ⟨q, ⟨(({ U with heap := s₂.heap, slotsUsed := s₂.slotsUsed } : State).setVm s₂.vm), Ls ++ L, c0 + mc, s0 + ms⟩,
      ⟨X.admits, X.cas, X.clock, X.frames, X.room, X.hears, X.method, X.code, (X.here.setHeapUsed s₂.heap s₂.slotsUsed).setVm hW'.alike, X.tail, State.WarmedH.trans X.warmed hW', X.limits, X.bytes, X.same.trans (hsame.setVm s.vm)⟩,
      ⟨g, mk, s₂, L, E, ce, rfl, rfl, hx, hce, hcv, hcl, rfl, hL, rfl, rfl⟩, ?_⟩
    show Steps p.tables e below _ (((({ U with heap := s₂.heap, slotsUsed := s₂.slotsUsed } : State).setVm s₂.vm).setTop g).pushFrame (.throwing q))
    rw [← hs₂]
    exact hsteps
end Payer
section Calls
variable {p : Program} {l : Launch} {e : Env} {R : Room} {s : State} {m : MethodId} {args : Array Value} {below : List Frame} {meth : Method} {c : Code} {T : State} {locs : List Loc} {cells slots : Nat}
theorem vx_callV (X : Stand p l e R s m args below meth c T locs cells slots) (hexec : p.tables.exec = Jvm.exec) {own C : String} {index : Nat} {y : MethodName} {bytes : ByteArray} {maxL : Nat} {ret : Option FieldType}
    (hown : s.vm.findClass own = some m.cls) (hlink : (Cond.methodLink own index y).before args s = true) (hinst : (Cond.instanceMethod y).before args s = true) (hsel : (Cond.selects C y y).before args s = true)
    (hcode : (Cond.code y bytes maxL ret).before args s = true) (hy : y.cls ≠ "java/lang/invoke/MethodHandle" ∧ y.cls ≠ "java/lang/invoke/VarHandle")
    {W9 : Nat} {Pre : Pt → Array Value → Prop} {Post : Pt → Array Value → Option Value → Pt → Prop} {PostX : Pt → Array Value → Addr → Pt → Prop} (hK : vx_Back l R p e below s args y 3 W9 Pre Post PostX)
    {b : Addr} {cellB : Cell} (hcell : T.heap[b]? = some cellB) (hobj : cellB.vm.isStatics = false) (hcls : s.vm.findClass C = some cellB.cls)
    {g : JFrame} (hg : g.method = m) (hsize : g.locals.size = c.maxLocals) {argsL rest : List Value} (hlen : ∀ sig, parseMethodDescriptor y.desc = some sig → argsL.length = sig.parameters.length)
    (hstack : g.stack = argsL.reverse ++ .ref b :: rest) (hW : 2 * g.monitorRoom + (rest.map fun v => v.category).sum ≤ W9) (hdg : decode c.code g.pc = .ok (.invokevirtual index, 3))
    (hpre : ∀ vm₁, s.WarmedH vm₁ → Pre ⟨T.setVm vm₁, locs, cells, slots⟩ (Value.ref b :: argsL).toArray) :
    (∃ (v : Option Value) (vm₁ : Vm) (B : Pt), s.WarmedH vm₁ ∧ Stand p l e R s m args below meth c B.U B.locs B.cells B.slots ∧ Post ⟨T.setVm vm₁, locs, cells, slots⟩ (Value.ref b :: argsL).toArray v B ∧
      ∀ target, Steps p.tables e below (B.U.setTop { g with pc := g.pc + 3, stack := v.toList ++ rest }) target → Steps p.tables e below (T.setTop g) target) ∨
    (∃ (q : Addr) (vm₁ : Vm) (B : Pt), s.WarmedH vm₁ ∧ Stand p l e R s m args below meth c B.U B.locs B.cells B.slots ∧ PostX ⟨T.setVm vm₁, locs, cells, slots⟩ (Value.ref b :: argsL).toArray q B ∧
      Steps p.tables e below (T.setTop g) ((B.U.setTop { g with stack := rest }).pushFrame (.throwing q))) := by
  obtain ⟨mk, methM, hnamed, hmethM, hstM, habM⟩ := Cond.instanceMethod_spec hinst
  obtain ⟨methM', cM, hmethM', -, -, -, -, -, -, hsigM⟩ := Cond.code_spec hnamed hcode
  cases hmethM.symm.trans hmethM'
  obtain ⟨c2, r2, m2, q1, q2, q3, q4, kP, hkP, hkPi⟩ := Cond.selects_spec hsel
  cases hcls.symm.trans q1
  cases (State.methodFound?_of_named hnamed hy).symm.trans q2
  cases hnamed.symm.trans q3
  have hselP : selectMethod e.platform s.vm cellB.cls mk = .method mk := by rw [Launch.admits_selectMethod X.admits]; exact q4
  obtain ⟨vm₁, X₁, hstep₁⟩ := X.invokevirtual hexec hown hlink hnamed hmethM hstM hkP hkPi hy (a := b) (cell := cellB) hcell
    (fun z h => by rw [h] at hobj; cases hobj) hselP hmethM habM hkP hkPi (g := g) hg (argsL := argsL) (rest := rest) (hlen _ hsigM) hstack hdg
  rcases hK m meth c ⟨T.setVm vm₁, locs, cells, slots⟩ { g with stack := rest } (.invokevirtual index) mk (Value.ref b :: argsL).toArray X₁ hg hsize hdg hW (X₁.named hnamed) (hpre vm₁ X₁.warmed) with ⟨v, B, X', hpost, hsteps⟩ | ⟨q, B, X', hpost, hsteps⟩
  · exact Or.inl ⟨v, vm₁, B, X₁.warmed, X', hpost, fun target h => hstep₁ _ fun acts => by rw [doInvoke_state]; exact hsteps.trans h⟩
  · exact Or.inr ⟨q, vm₁, B, X₁.warmed, X', hpost, hstep₁ _ fun acts => by rw [doInvoke_state]; exact hsteps⟩
theorem vx_callS (X : Stand p l e R s m args below meth c T locs cells slots) (hexec : p.tables.exec = Jvm.exec) {own : String} {index : Nat} {y : MethodName} {bytes : ByteArray} {maxL : Nat} {ret : Option FieldType}
    (hown : s.vm.findClass own = some m.cls) (hlink : (Cond.methodLink own index y).before args s = true) (hstat : (Cond.static y).before args s = true) (hinit : (Cond.initialized y.cls).before args s = true)
    (hcode : (Cond.code y bytes maxL ret).before args s = true) (hy : y.cls ≠ "java/lang/invoke/MethodHandle" ∧ y.cls ≠ "java/lang/invoke/VarHandle")
    {W9 : Nat} {Pre : Pt → Array Value → Prop} {Post : Pt → Array Value → Option Value → Pt → Prop} {PostX : Pt → Array Value → Addr → Pt → Prop} (hK : vx_Back l R p e below s args y 3 W9 Pre Post PostX)
    {g : JFrame} (hg : g.method = m) (hsize : g.locals.size = c.maxLocals) {argsL rest : List Value} (hlen : ∀ sig, parseMethodDescriptor y.desc = some sig → argsL.length = sig.parameters.length)
    (hstack : g.stack = argsL.reverse ++ rest) (hW : 2 * g.monitorRoom + (rest.map fun v => v.category).sum ≤ W9) (hdg : decode c.code g.pc = .ok (.invokestatic index, 3))
    (hpre : ∀ vm₁, s.WarmedH vm₁ → Pre ⟨T.setVm vm₁, locs, cells, slots⟩ argsL.toArray) :
    (∃ (v : Option Value) (vm₁ : Vm) (B : Pt), s.WarmedH vm₁ ∧ Stand p l e R s m args below meth c B.U B.locs B.cells B.slots ∧ Post ⟨T.setVm vm₁, locs, cells, slots⟩ argsL.toArray v B ∧
      ∀ target, Steps p.tables e below (B.U.setTop { g with pc := g.pc + 3, stack := v.toList ++ rest }) target → Steps p.tables e below (T.setTop g) target) ∨
    (∃ (q : Addr) (vm₁ : Vm) (B : Pt), s.WarmedH vm₁ ∧ Stand p l e R s m args below meth c B.U B.locs B.cells B.slots ∧ PostX ⟨T.setVm vm₁, locs, cells, slots⟩ argsL.toArray q B ∧
      Steps p.tables e below (T.setTop g) ((B.U.setTop { g with stack := rest }).pushFrame (.throwing q))) := by
  obtain ⟨mk, hnamed⟩ := Cond.code_named hcode
  obtain ⟨methM, cM, hmethM, -, -, -, -, -, -, hsigM⟩ := Cond.code_spec hnamed hcode
  have hstatic : methM.isStatic = true := Cond.static_spec hnamed hmethM hstat
  obtain ⟨kP, hkP, -⟩ := className_of_methodNamed hnamed
  have hinitP : kP.init = .initialized := Cond.initialized_spec (findClass_of_methodNamed hnamed) hkP hinit
  obtain ⟨vm₁, X₁, hstep₁⟩ := X.invokestatic hexec hown hlink hnamed hmethM hstatic hkP hinitP hy (g := g) hg (argsL := argsL) (rest := rest) (hlen _ hsigM) hstack hdg
  rcases hK m meth c ⟨T.setVm vm₁, locs, cells, slots⟩ { g with stack := rest } (.invokestatic index) mk argsL.toArray X₁ hg hsize hdg hW (X₁.named hnamed) (hpre vm₁ X₁.warmed) with ⟨v, B, X', hpost, hsteps⟩ | ⟨q, B, X', hpost, hsteps⟩
  · exact Or.inl ⟨v, vm₁, B, X₁.warmed, X', hpost, fun target h => hstep₁ _ fun acts => by rw [doInvoke_state]; exact hsteps.trans h⟩
  · exact Or.inr ⟨q, vm₁, B, X₁.warmed, X', hpost, hstep₁ _ fun acts => by rw [doInvoke_state]; exact hsteps⟩
end Calls
theorem vx_cls {s : State} {T : State} {vm₁ : Vm} {E : String} {k : ClassId} (hW : s.WarmedH vm₁) (h : (T.setVm vm₁).vm.findClass E = some k) : s.vm.findClass E = some k := by
  have h1 : vm₁.findClass E = some k := h
  rw [hW.alike.findClass] at h1
  exact h1
/-- the method's frame g, with q thrown over it -/
def vx_W (p : Program) (l : Launch) (e : Env) (R : Room) (s : State) (m : MethodId) (args : Array Value) (below : List Frame) (meth : Method) (c : Code) (H : Heap) (locs : List Loc) (cells slots : Nat) (Q : State → Prop) (g : JFrame) (q : Addr) : Prop :=
  ∀ T : State, T.heap = H → Stand p l e R s m args below meth c T locs cells slots → ∃ t, Steps p.tables e below ((T.setTop g).pushFrame (.throwing q)) t ∧ Q t
def vx_Run (p : Program) (l : Launch) (e : Env) (R : Room) (s : State) (m : MethodId) (args : Array Value) (below : List Frame) (meth : Method) (c : Code) (H : Heap) (locs : List Loc) (cells slots mc ms : Nat) (g : JFrame) (rest : List Value) (Qa : State → Outcome → State → Prop) (XC : String → State → State → Prop) (free : Addr → Prop) : Prop :=
  ∀ T : State, T.heap = H → Stand p l e R s m args below meth c T locs cells slots →
    (∃ (v : Option Value) (st₀ t T' : State) (L : List Loc), st₀.heap = H ∧ Stand p l e R s m args below meth c T' (locs ++ L) (cells + mc) (slots + ms) ∧ (∀ q ∈ L, free q.base) ∧ T'.heap = t.heap ∧ T'.vm = t.vm ∧ Qa st₀ (.returned v) t ∧
      Goes p e below T g T' { g with pc := g.pc + 3, stack := v.toList ++ rest }) ∨
    (∃ (q : Addr) (st₀ t T' : State) (L : List Loc) (E : String) (ce : Cell), st₀.heap = H ∧ Stand p l e R s m args below meth c T' (locs ++ L) (cells + mc) (slots + ms) ∧ (∀ z ∈ L, free z.base) ∧ T'.heap = t.heap ∧ T'.vm = t.vm ∧ XC E st₀ t ∧ t.heap[q]? = some ce ∧ ce.vm = .none ∧ s.vm.findClass E = some ce.cls ∧
      Steps p.tables e below (T.setTop g) ((T'.setTop { g with stack := rest }).pushFrame (.throwing q)))
def vx_X {S : Type} (px : S → Prop) (B : String → S → State → Prop) (A : Nat → Prop) : String → State → State → Prop := fun E st t => ∃ u : S, px u ∧ B E u t ∧ va_F A st t
section Runs
variable {p : Program} {l : Launch} {e : Env} {R : Room} {s : State} {m : MethodId} {args : Array Value} {below : List Frame} {meth : Method} {c : Code} {H : Heap} {locs : List Loc} {cells slots : Nat}
variable {y : MethodName} {bytes cc : ByteArray} {maxL nL mc ms n index : Nat} {ret : Option FieldType} {ws : List Cond} {rm : Room} {Pc : Array Value → State → Prop} {Qc : Array Value → State → Outcome → State → Prop} {XC : String → State → State → Prop} {free : Addr → Prop} {Ts : List Cond} {own C : String} {b : Addr} {As rest : List Value} {g : JFrame}
theorem vx_callBack (cb : CallB R s args own index y bytes maxL ret ws rm mc ms n) (hM : vx_Met l y ws rm Pc Qc XC mc ms free) (hbl : FrameBlind Pc) : vx_Back l R p e below s args y 3 8 (PreOf R mc ms Pc) (PostOf Qc mc ms free) (vx_Post XC mc ms free) := by
  obtain ⟨hrc, hrs, hfr, hlo, hws, hcw, -, hini, -⟩ := cb
  exact vx_back (bytes := bytes) (maxL := maxL) (ret := ret) hM hbl hrc hrs hfr hlo hws hcw (fun a' U hW => word_at hW (Or.inl (by first | rfl | simp [Cond.onTables, Cond.keeps, Cond.steady])) hini)
theorem vx_runV (S : CallFix p m c cc nL s args Ts own) (hM : vx_Met l y ws rm Pc Qc XC mc ms free) (cw : CallW R s args own C index y bytes maxL ret ws rm mc ms n) (hp : PreV s H C b Pc As)
    (hg : g.method = m) (hn : As.length = n) (hsize : g.locals.size = nL) (hstack : g.stack = As.reverse ++ .ref b :: rest) (hW : 2 * g.monitorRoom + (rest.map fun v => v.category).sum ≤ 8) (hdg : decode cc g.pc = .ok (.invokevirtual index, 3)) (hf : cells + mc ≤ R.cells ∧ slots + ms ≤ R.slots) :
    vx_Run p l e R s m args below meth c H locs cells slots mc ms g rest (Qc (Value.ref b :: As).toArray) XC free := by
  have hK : vx_Back l R p e below s args y 3 8 (PreOf R mc ms Pc) (PostOf Qc mc ms free) (vx_Post XC mc ms free) := vx_callBack cw.1 hM hp.1
  obtain ⟨⟨-, -, -, -, -, -, hcode, -, hy, hlen, hl⟩, hin, hse⟩ := cw
  obtain ⟨hx, hb, hml, ho, -⟩ := S
  obtain ⟨-, ⟨cellB, hcB, hoB, hclB⟩, hPc⟩ := hp
  intro T hT X
  rcases vx_callV X hx (C := C) (bytes := bytes) (maxL := maxL) (ret := ret) ho hl hin hse hcode hy hK (by rw [hT]; exact hcB) hoB hclB hg (hsize.trans hml.symm) (argsL := As) (rest := rest) (fun sig h => hn.trans (hlen sig h)) hstack hW (by rw [hb]; exact hdg)
    (fun vm₁ hW₁ => ⟨hf.1, hf.2, hPc (T.setVm vm₁) hT hW₁⟩) with ⟨v, vm₁, ⟨U', l2, c2, s2⟩, hW₁, X', ⟨g', mk, t, L, e1, e2, hq, h1, hL, h2, h3⟩, st⟩ | ⟨q, vm₁, ⟨U', l2, c2, s2⟩, hW₁, X', ⟨g', mk, t, L, E, ce, e1, e2, hq, hce, hcv, hcl, h1, hL, h2, h3⟩, st⟩
  · dsimp only [Pt.U, Pt.locs, Pt.cells, Pt.slots] at X' e1 e2 h1 h2 h3 st
    subst h1; subst h2; subst h3
    exact Or.inl ⟨v, (T.setVm vm₁).calling g' mk (Value.ref b :: As).toArray, t, U', L, hT, X', hL, e1, e2, hq, st⟩
  · dsimp only [Pt.U, Pt.locs, Pt.cells, Pt.slots] at X' e1 e2 h1 h2 h3 st hcl
    subst h1; subst h2; subst h3
    exact Or.inr ⟨q, (T.setVm vm₁).calling g' mk (Value.ref b :: As).toArray, t, U', L, E, ce, hT, X', hL, e1, e2, hq, hce, hcv, vx_cls hW₁ hcl, st⟩
theorem vx_runS (S : CallFix p m c cc nL s args Ts own) (hM : vx_Met l y ws rm Pc Qc XC mc ms free) (cw : CallB R s args own index y bytes maxL ret ws rm mc ms n ∧ (Cond.static y).before args s = true) (hp : PreS s H Pc As)
    (hg : g.method = m) (hn : As.length = n) (hsize : g.locals.size = nL) (hstack : g.stack = As.reverse ++ rest) (hW : 2 * g.monitorRoom + (rest.map fun v => v.category).sum ≤ 8) (hdg : decode cc g.pc = .ok (.invokestatic index, 3)) (hf : cells + mc ≤ R.cells ∧ slots + ms ≤ R.slots) :
    vx_Run p l e R s m args below meth c H locs cells slots mc ms g rest (Qc As.toArray) XC free := by
  have hK : vx_Back l R p e below s args y 3 8 (PreOf R mc ms Pc) (PostOf Qc mc ms free) (vx_Post XC mc ms free) := vx_callBack cw.1 hM hp.1
  obtain ⟨⟨-, -, -, -, -, -, hcode, hini, hy, hlen, hl⟩, hstt⟩ := cw
  obtain ⟨hx, hb, hml, ho, -⟩ := S
  intro T hT X
  rcases vx_callS X hx (bytes := bytes) (maxL := maxL) (ret := ret) ho hl hstt hini hcode hy hK hg (hsize.trans hml.symm) (argsL := As) (rest := rest) (fun sig h => hn.trans (hlen sig h)) hstack hW (by rw [hb]; exact hdg)
    (fun vm₁ hW₁ => ⟨hf.1, hf.2, hp.2 (T.setVm vm₁) hT hW₁⟩) with ⟨v, vm₁, ⟨U', l2, c2, s2⟩, hW₁, X', ⟨g', mk, t, L, e1, e2, hq, h1, hL, h2, h3⟩, st⟩ | ⟨q, vm₁, ⟨U', l2, c2, s2⟩, hW₁, X', ⟨g', mk, t, L, E, ce, e1, e2, hq, hce, hcv, hcl, h1, hL, h2, h3⟩, st⟩
  · dsimp only [Pt.U, Pt.locs, Pt.cells, Pt.slots] at X' e1 e2 h1 h2 h3 st
    subst h1; subst h2; subst h3
    exact Or.inl ⟨v, (T.setVm vm₁).calling g' mk As.toArray, t, U', L, hT, X', hL, e1, e2, hq, st⟩
  · dsimp only [Pt.U, Pt.locs, Pt.cells, Pt.slots] at X' e1 e2 h1 h2 h3 st hcl
    subst h1; subst h2; subst h3
    exact Or.inr ⟨q, (T.setVm vm₁).calling g' mk As.toArray, t, U', L, E, ce, hT, X', hL, e1, e2, hq, hce, hcv, vx_cls hW₁ hcl, st⟩
end Runs
section Rows
variable {p : Program} {l : Launch} {e : Env} {R : Room} {s : State} {m : MethodId} {args : Array Value} {below : List Frame} {meth : Method} {c : Code} {H : Heap} {locs : List Loc} {cells slots : Nat} {Q : State → Prop}
variable {mc ms : Nat} {free : Addr → Prop} {A0 A1 : Nat → Prop} {H0 : Heap} {a : Array Value} {pc : Nat} {ls : Array Slot} {st0 rest : List Value}
theorem vx_keep {st₀ t T' : State} {L : List Loc} (h0 : st₀.heap = H) (e1 : T'.heap = t.heap) (hS : va_S A0 H0 H locs) (hA : ∀ q, q < H.size → A1 q → A0 q) (hf : ∀ q, free q → A0 q) (hL : ∀ q ∈ L, free q.base) (hF : va_F A1 st₀ t) :
    H.size ≤ T'.heap.size ∧ (∀ q : Nat, q < H.size → ¬ A1 q → T'.heap[q]? = H[q]?) ∧ va_S A0 H0 T'.heap (locs ++ L) := by
  obtain ⟨hz, hk⟩ := hF
  rw [h0] at hz hk
  exact ⟨by rw [e1]; exact hz, fun q h1 h2 => by rw [e1]; exact hk q h1 h2,
    ⟨Nat.le_trans hS.1 (by rw [e1]; exact hz), fun q h1 h2 => by rw [e1, hk q (Nat.lt_of_lt_of_le h1 hS.1) (fun z => h2 (hA q (Nat.lt_of_lt_of_le h1 hS.1) z))]; exact hS.2.1 q h1 h2, fun q hq => by
      rcases List.mem_append.mp hq with h | h
      · exact hS.2.2 q h
      · exact hf _ (hL q h)⟩⟩
theorem vx_calli {S SX : Type} {post : Int32 → S → Prop} {px : SX → Prop} {B : S → State → Prop} {BX : String → SX → State → Prop} {AX : Nat → Prop} (hr : vx_Run p l e R s m args below meth c H locs cells slots mc ms (F0 m pc ls st0) rest (va_Qi post B A1 a) (vx_X px BX AX) free) (hS : va_S A0 H0 H locs) (hA : ∀ q, q < H.size → A1 q → A0 q) (hf : ∀ q, free q → A0 q) (hAX : ∀ q, q < H.size → AX q → A0 q)
    (kx : ∀ (E : String) (ce : Cell) (q9 : Addr) (u : SX) (t : State) (H1 : Heap) (locs1 : List Loc), t.heap = H1 → s.vm.Alike t.vm → px u → BX E u t → H.size ≤ H1.size → (∀ q : Nat, q < H.size → ¬ AX q → H1[q]? = H[q]?) → va_S A0 H0 H1 locs1 → H1[q9]? = some ce → ce.vm = .none → s.vm.findClass E = some ce.cls → vx_W p l e R s m args below meth c H1 locs1 (cells + mc) (slots + ms) Q (F0 m pc ls rest) q9)
    (kk : ∀ (r : Int32) (u : S) (t : State) (H1 : Heap) (locs1 : List Loc), t.heap = H1 → s.vm.Alike t.vm → post r u → B u t → H.size ≤ H1.size → (∀ q : Nat, q < H.size → ¬ A1 q → H1[q]? = H[q]?) → va_S A0 H0 H1 locs1 → W p l e R s m args below meth c H1 locs1 (cells + mc) (slots + ms) Q (F0 m (pc + 3) ls (.int r :: rest))) : W p l e R s m args below meth c H locs cells slots Q (F0 m pc ls st0) := by
  intro T hT X
  rcases hr T hT X with ⟨v, st₀, t, T', L, h0, X', hL, e1, e2, ⟨⟨r, u, hv, hp, hb⟩, hF⟩, st⟩ | ⟨q, st₀, t, T', L, E, ce, h0, X', hL, e1, e2, ⟨u, hp, hb, hF⟩, hce, hcv, hcl, st⟩
  · cases hv
    obtain ⟨k1, k2, k3⟩ := vx_keep h0 e1 hS hA hf hL hF
    obtain ⟨t2, a1, b1⟩ := kk r u t T'.heap (locs ++ L) e1.symm (by rw [← e2]; exact X'.warmed.alike) hp hb k1 k2 k3 T' rfl X'
    exact ⟨t2, st t2 a1, b1⟩
  · obtain ⟨k1, k2, k3⟩ := vx_keep h0 e1 hS hAX hf hL hF
    obtain ⟨t2, a1, b1⟩ := kx E ce q u t T'.heap (locs ++ L) e1.symm (by rw [← e2]; exact X'.warmed.alike) hp hb k1 k2 k3 (by rw [e1]; exact hce) hcv hcl T' rfl X'
    exact ⟨t2, st.trans a1, b1⟩
theorem vx_calll {S SX : Type} {post : Int64 → S → Prop} {px : SX → Prop} {B : S → State → Prop} {BX : String → SX → State → Prop} {AX : Nat → Prop} (hr : vx_Run p l e R s m args below meth c H locs cells slots mc ms (F0 m pc ls st0) rest (va_Ql post B A1 a) (vx_X px BX AX) free) (hS : va_S A0 H0 H locs) (hA : ∀ q, q < H.size → A1 q → A0 q) (hf : ∀ q, free q → A0 q) (hAX : ∀ q, q < H.size → AX q → A0 q)
    (kx : ∀ (E : String) (ce : Cell) (q9 : Addr) (u : SX) (t : State) (H1 : Heap) (locs1 : List Loc), t.heap = H1 → s.vm.Alike t.vm → px u → BX E u t → H.size ≤ H1.size → (∀ q : Nat, q < H.size → ¬ AX q → H1[q]? = H[q]?) → va_S A0 H0 H1 locs1 → H1[q9]? = some ce → ce.vm = .none → s.vm.findClass E = some ce.cls → vx_W p l e R s m args below meth c H1 locs1 (cells + mc) (slots + ms) Q (F0 m pc ls rest) q9)
    (kk : ∀ (r : Int64) (u : S) (t : State) (H1 : Heap) (locs1 : List Loc), t.heap = H1 → s.vm.Alike t.vm → post r u → B u t → H.size ≤ H1.size → (∀ q : Nat, q < H.size → ¬ A1 q → H1[q]? = H[q]?) → va_S A0 H0 H1 locs1 → W p l e R s m args below meth c H1 locs1 (cells + mc) (slots + ms) Q (F0 m (pc + 3) ls (.long r :: rest))) : W p l e R s m args below meth c H locs cells slots Q (F0 m pc ls st0) := by
  intro T hT X
  rcases hr T hT X with ⟨v, st₀, t, T', L, h0, X', hL, e1, e2, ⟨⟨r, u, hv, hp, hb⟩, hF⟩, st⟩ | ⟨q, st₀, t, T', L, E, ce, h0, X', hL, e1, e2, ⟨u, hp, hb, hF⟩, hce, hcv, hcl, st⟩
  · cases hv
    obtain ⟨k1, k2, k3⟩ := vx_keep h0 e1 hS hA hf hL hF
    obtain ⟨t2, a1, b1⟩ := kk r u t T'.heap (locs ++ L) e1.symm (by rw [← e2]; exact X'.warmed.alike) hp hb k1 k2 k3 T' rfl X'
    exact ⟨t2, st t2 a1, b1⟩
  · obtain ⟨k1, k2, k3⟩ := vx_keep h0 e1 hS hAX hf hL hF
    obtain ⟨t2, a1, b1⟩ := kx E ce q u t T'.heap (locs ++ L) e1.symm (by rw [← e2]; exact X'.warmed.alike) hp hb k1 k2 k3 (by rw [e1]; exact hce) hcv hcl T' rfl X'
    exact ⟨t2, st.trans a1, b1⟩
theorem vx_callf {S SX : Type} {post : UInt32 → S → Prop} {px : SX → Prop} {B : S → State → Prop} {BX : String → SX → State → Prop} {AX : Nat → Prop} (hr : vx_Run p l e R s m args below meth c H locs cells slots mc ms (F0 m pc ls st0) rest (va_Qf post B A1 a) (vx_X px BX AX) free) (hS : va_S A0 H0 H locs) (hA : ∀ q, q < H.size → A1 q → A0 q) (hf : ∀ q, free q → A0 q) (hAX : ∀ q, q < H.size → AX q → A0 q)
    (kx : ∀ (E : String) (ce : Cell) (q9 : Addr) (u : SX) (t : State) (H1 : Heap) (locs1 : List Loc), t.heap = H1 → s.vm.Alike t.vm → px u → BX E u t → H.size ≤ H1.size → (∀ q : Nat, q < H.size → ¬ AX q → H1[q]? = H[q]?) → va_S A0 H0 H1 locs1 → H1[q9]? = some ce → ce.vm = .none → s.vm.findClass E = some ce.cls → vx_W p l e R s m args below meth c H1 locs1 (cells + mc) (slots + ms) Q (F0 m pc ls rest) q9)
    (kk : ∀ (r : UInt32) (u : S) (t : State) (H1 : Heap) (locs1 : List Loc), t.heap = H1 → s.vm.Alike t.vm → post r u → B u t → H.size ≤ H1.size → (∀ q : Nat, q < H.size → ¬ A1 q → H1[q]? = H[q]?) → va_S A0 H0 H1 locs1 → W p l e R s m args below meth c H1 locs1 (cells + mc) (slots + ms) Q (F0 m (pc + 3) ls (.float r :: rest))) : W p l e R s m args below meth c H locs cells slots Q (F0 m pc ls st0) := by
  intro T hT X
  rcases hr T hT X with ⟨v, st₀, t, T', L, h0, X', hL, e1, e2, ⟨⟨r, u, hv, hp, hb⟩, hF⟩, st⟩ | ⟨q, st₀, t, T', L, E, ce, h0, X', hL, e1, e2, ⟨u, hp, hb, hF⟩, hce, hcv, hcl, st⟩
  · cases hv
    obtain ⟨k1, k2, k3⟩ := vx_keep h0 e1 hS hA hf hL hF
    obtain ⟨t2, a1, b1⟩ := kk r u t T'.heap (locs ++ L) e1.symm (by rw [← e2]; exact X'.warmed.alike) hp hb k1 k2 k3 T' rfl X'
    exact ⟨t2, st t2 a1, b1⟩
  · obtain ⟨k1, k2, k3⟩ := vx_keep h0 e1 hS hAX hf hL hF
    obtain ⟨t2, a1, b1⟩ := kx E ce q u t T'.heap (locs ++ L) e1.symm (by rw [← e2]; exact X'.warmed.alike) hp hb k1 k2 k3 (by rw [e1]; exact hce) hcv hcl T' rfl X'
    exact ⟨t2, st.trans a1, b1⟩
theorem vx_calld {S SX : Type} {post : UInt64 → S → Prop} {px : SX → Prop} {B : S → State → Prop} {BX : String → SX → State → Prop} {AX : Nat → Prop} (hr : vx_Run p l e R s m args below meth c H locs cells slots mc ms (F0 m pc ls st0) rest (va_Qd post B A1 a) (vx_X px BX AX) free) (hS : va_S A0 H0 H locs) (hA : ∀ q, q < H.size → A1 q → A0 q) (hf : ∀ q, free q → A0 q) (hAX : ∀ q, q < H.size → AX q → A0 q)
    (kx : ∀ (E : String) (ce : Cell) (q9 : Addr) (u : SX) (t : State) (H1 : Heap) (locs1 : List Loc), t.heap = H1 → s.vm.Alike t.vm → px u → BX E u t → H.size ≤ H1.size → (∀ q : Nat, q < H.size → ¬ AX q → H1[q]? = H[q]?) → va_S A0 H0 H1 locs1 → H1[q9]? = some ce → ce.vm = .none → s.vm.findClass E = some ce.cls → vx_W p l e R s m args below meth c H1 locs1 (cells + mc) (slots + ms) Q (F0 m pc ls rest) q9)
    (kk : ∀ (r : UInt64) (u : S) (t : State) (H1 : Heap) (locs1 : List Loc), t.heap = H1 → s.vm.Alike t.vm → post r u → B u t → H.size ≤ H1.size → (∀ q : Nat, q < H.size → ¬ A1 q → H1[q]? = H[q]?) → va_S A0 H0 H1 locs1 → W p l e R s m args below meth c H1 locs1 (cells + mc) (slots + ms) Q (F0 m (pc + 3) ls (.double r :: rest))) : W p l e R s m args below meth c H locs cells slots Q (F0 m pc ls st0) := by
  intro T hT X
  rcases hr T hT X with ⟨v, st₀, t, T', L, h0, X', hL, e1, e2, ⟨⟨r, u, hv, hp, hb⟩, hF⟩, st⟩ | ⟨q, st₀, t, T', L, E, ce, h0, X', hL, e1, e2, ⟨u, hp, hb, hF⟩, hce, hcv, hcl, st⟩
  · cases hv
    obtain ⟨k1, k2, k3⟩ := vx_keep h0 e1 hS hA hf hL hF
    obtain ⟨t2, a1, b1⟩ := kk r u t T'.heap (locs ++ L) e1.symm (by rw [← e2]; exact X'.warmed.alike) hp hb k1 k2 k3 T' rfl X'
    exact ⟨t2, st t2 a1, b1⟩
  · obtain ⟨k1, k2, k3⟩ := vx_keep h0 e1 hS hAX hf hL hF
    obtain ⟨t2, a1, b1⟩ := kx E ce q u t T'.heap (locs ++ L) e1.symm (by rw [← e2]; exact X'.warmed.alike) hp hb k1 k2 k3 (by rw [e1]; exact hce) hcv hcl T' rfl X'
    exact ⟨t2, st.trans a1, b1⟩
theorem vx_callv {S SX : Type} {post : S → Prop} {px : SX → Prop} {B : S → State → Prop} {BX : String → SX → State → Prop} {AX : Nat → Prop} (hr : vx_Run p l e R s m args below meth c H locs cells slots mc ms (F0 m pc ls st0) rest (va_Qv post B A1 a) (vx_X px BX AX) free) (hS : va_S A0 H0 H locs) (hA : ∀ q, q < H.size → A1 q → A0 q) (hf : ∀ q, free q → A0 q) (hAX : ∀ q, q < H.size → AX q → A0 q)
    (kx : ∀ (E : String) (ce : Cell) (q9 : Addr) (u : SX) (t : State) (H1 : Heap) (locs1 : List Loc), t.heap = H1 → s.vm.Alike t.vm → px u → BX E u t → H.size ≤ H1.size → (∀ q : Nat, q < H.size → ¬ AX q → H1[q]? = H[q]?) → va_S A0 H0 H1 locs1 → H1[q9]? = some ce → ce.vm = .none → s.vm.findClass E = some ce.cls → vx_W p l e R s m args below meth c H1 locs1 (cells + mc) (slots + ms) Q (F0 m pc ls rest) q9)
    (kk : ∀ (u : S) (t : State) (H1 : Heap) (locs1 : List Loc), t.heap = H1 → s.vm.Alike t.vm → post u → B u t → H.size ≤ H1.size → (∀ q : Nat, q < H.size → ¬ A1 q → H1[q]? = H[q]?) → va_S A0 H0 H1 locs1 → W p l e R s m args below meth c H1 locs1 (cells + mc) (slots + ms) Q (F0 m (pc + 3) ls (rest))) : W p l e R s m args below meth c H locs cells slots Q (F0 m pc ls st0) := by
  intro T hT X
  rcases hr T hT X with ⟨v, st₀, t, T', L, h0, X', hL, e1, e2, ⟨⟨u, hv, hp, hb⟩, hF⟩, st⟩ | ⟨q, st₀, t, T', L, E, ce, h0, X', hL, e1, e2, ⟨u, hp, hb, hF⟩, hce, hcv, hcl, st⟩
  · cases hv
    obtain ⟨k1, k2, k3⟩ := vx_keep h0 e1 hS hA hf hL hF
    obtain ⟨t2, a1, b1⟩ := kk u t T'.heap (locs ++ L) e1.symm (by rw [← e2]; exact X'.warmed.alike) hp hb k1 k2 k3 T' rfl X'
    exact ⟨t2, st t2 a1, b1⟩
  · obtain ⟨k1, k2, k3⟩ := vx_keep h0 e1 hS hAX hf hL hF
    obtain ⟨t2, a1, b1⟩ := kx E ce q u t T'.heap (locs ++ L) e1.symm (by rw [← e2]; exact X'.warmed.alike) hp hb k1 k2 k3 (by rw [e1]; exact hce) hcv hcl T' rfl X'
    exact ⟨t2, st.trans a1, b1⟩
/-- caught by the row x of this method's table; the rows ahead don't take it -/
theorem vx_catch {own name : String} {E : String} {ce : Cell} {q : Addr} (hown : s.vm.findClass own = some m.cls) (pre : List ExceptionTableEntry) (x : ExceptionTableEntry) (suf : List ExceptionTableEntry) (hsplit : c.exceptionTable.toList = pre ++ x :: suf)
    (hpass : ∀ z ∈ pre, covers z pc = false ∨ (z.catchType ≠ 0 ∧ ∃ nm : String, (Cond.classLink own z.catchType nm).before args s = true ∧ va_Nc E nm s)) (hx : covers x pc = true) (h0 : x.catchType ≠ 0)
    (hlink : (Cond.classLink own x.catchType name).before args s = true) (hcast : (Cond.castable E name).before args s = true) (hcell : H[q]? = some ce) (hv : ce.vm = .none) (hcl : s.vm.findClass E = some ce.cls)
    (kk : W p l e R s m args below meth c H locs cells slots Q (F0 m x.handlerPc ls [.ref q])) : vx_W p l e R s m args below meth c H locs cells slots Q (F0 m pc ls rest) q := by
  intro T hT X
  have hpl : e.platform.magicAccessors = ({} : Platform).magicAccessors := by rw [X.admits.platform]
  obtain ⟨c3, c4, hc3, hc4, hasg⟩ := Cond.castable_spec hcast
  cases Option.some.inj (hc3.symm.trans hcl)
  obtain ⟨c5, hc5, hcl5⟩ := Cond.classLink_spec hown hlink e.platform hpl
  cases Option.some.inj (hc4.symm.trans hc5)
  obtain ⟨vm', X', st⟩ := X.thenCaughtThrough q (g := F0 m pc ls rest) rfl (Steps.refl _) (by rw [hT]; exact hcell) (by rw [hv]; rfl) (by obtain ⟨k9, h9, -⟩ := Vm.findClass_spec hcl; exact ⟨k9, h9⟩) pre x suf hsplit
    (fun z hz => by
      rcases hpass z hz with h | ⟨hz0, nm, hl1, hn1⟩
      · exact Or.inl h
      · obtain ⟨c6, hc6, hcl6⟩ := Cond.classLink_spec hown hl1 e.platform hpl
        obtain ⟨a8, b8, h1, h2, h3⟩ := hn1
        cases Option.some.inj (h1.symm.trans hcl)
        cases Option.some.inj (h2.symm.trans hc6)
        exact Or.inr ⟨hz0, _, hcl6, h3⟩) hx (Or.inr ⟨h0, c4, hcl5, hasg⟩)
  obtain ⟨t, a1, b1⟩ := kk (T.setVm vm') hT X'
  exact ⟨t, st.trans a1, b1⟩
end Rows
section Ends
variable {p : Program} {l : Launch} {e : Env} {R : Room} {s : State} {m : MethodId} {args : Array Value} {below : List Frame} {meth : Method} {c : Code} {H : Heap} {locs : List Loc} {cells slots : Nat} {Q : State → Prop}
variable {mc ms : Nat} {free : Addr → Prop} {A0 A1 : Nat → Prop} {H0 : Heap} {a : Array Value} {ls : Array Slot} {st0 rest : List Value}
variable {Qc : Array Value → State → Outcome → State → Prop} {XC : String → State → State → Prop}
/-- what a body that may throw owes at its end -/
def vx_MQ (below : List Frame) (Qc : Array Value → State → Outcome → State → Prop) (XC : String → State → State → Prop) (a : Array Value) (s : State) (mc ms : Nat) (free : Addr → Prop) : State → Prop := fun t =>
  ∃ o, t.status = .running ∧ Ended t below o ∧ vx_Q Qc XC mc ms free a s o t
theorem vx_ret {g : JFrame} {mc ms : Nat} (k : W p l e R s m args below meth c H locs cells slots (MQ below Qc args s mc ms free) g) : W p l e R s m args below meth c H locs cells slots (vx_MQ below Qc XC args s mc ms free) g := by
  intro T hT X
  obtain ⟨t, a1, o, b1, b2, b3, b4⟩ := k T hT X
  exact ⟨t, a1, o, b1, b2, Or.inl ⟨b3, b4⟩⟩
/-- not caught here: it goes on to the caller -/
theorem vx_widen {g : JFrame} {q : Addr} {k n : Nat} (h1 : cells ≤ k) (h2 : slots ≤ n) (kk : vx_W p l e R s m args below meth c H locs k n Q g q) : vx_W p l e R s m args below meth c H locs cells slots Q g q := fun T hT X => kk T hT (stand_widen X h1 h2)
theorem vx_out {pc : Nat} {E : String} {ce : Cell} {q : Addr} {mc ms : Nat} (hout : ∀ x ∈ c.exceptionTable.toList, covers x pc = false) (hlocks : meth.locks = false) (hcell : H[q]? = some ce) (hv : ce.vm = .none) (hcl : s.vm.findClass E = some ce.cls)
    (hx : ∀ t : State, t.heap = H → s.vm.Alike t.vm → XC E s t) (hf : ∀ z ∈ locs, free z.base) (hc : cells ≤ mc) (hs : slots ≤ ms) :
    vx_W p l e R s m args below meth c H locs cells slots (vx_MQ below Qc XC args s mc ms free) (F0 m pc ls rest) q := by
  intro T hT X
  obtain ⟨st1, hrun, hend, hW, hsm⟩ := X.leaveThrown q (g := F0 m pc ls rest) rfl rfl rfl hout hlocks
  have hcell9 : (T.setFrames (.throwing q :: below)).heap[q]? = some ce := by
    show T.heap[q]? = some ce
    rw [hT]; exact hcell
  exact ⟨_, st1, .threw q, hrun, hend, Or.inr ⟨q, rfl, E, ce, locs, hx _ hT hW.alike, hcell9, hv, hcl, hW, hsm.mono hc hs, hf⟩⟩
theorem vx_frame {U : State} {k n : Nat} (h : s.sameButNew ({ U with vm := s.vm } : State) locs k n) : s.heap.size ≤ U.heap.size ∧ ∀ q : Nat, q < s.heap.size → (∀ z ∈ locs, z.base ≠ q) → U.heap[q]? = s.heap[q]? := by
  obtain ⟨-, h2, -, -, -, h6⟩ := h
  refine ⟨h2, fun q hq hz => ?_⟩
  obtain ⟨c9, e1, e2, e3, e4⟩ := h6 q _ (Array.getElem?_eq_getElem hq)
  have hs : c9.slots = (s.heap[q]).slots := Array.ext_getElem? fun i => e4 i fun hm => hz _ hm rfl
  have h9 : c9 = s.heap[q] := by
    rw [hs] at e2
    exact e2
  have e5 : U.heap[q]? = some c9 := e1
  rw [e5, h9, Array.getElem?_eq_getElem hq]
/-- the words of a throw but the four that speak of the heap -/
def vx_no (w : Cond) : Bool := decide (w ≠ .isRef (.static Bundle.tN "UNASSIGNED_STACK" Bundle.steD)) && decide (w ≠ .isRef (.static Bundle.tN "SUPPRESSED_SENTINEL" Bundle.listD)) && decide (w ≠ .laysStatic Bundle.tN "UNASSIGNED_STACK" Bundle.steD) && decide (w ≠ .laysStatic Bundle.tN "SUPPRESSED_SENTINEL" Bundle.listD)
def vx_at0 (own : String) (ic : Nat) (X : String) (names : List String) : List Cond := (Bundle.ownAtoms0 own ic X names).filter vx_no
def vx_atS (own : String) (ic : Nat) (X : String) (names : List String) : List Cond := (Bundle.ownAtoms own ic X names).filter vx_no
/-- a word that the tables alone decide, or a good one -/
def vx_ot (w : Cond) : Bool := w.onTables || goodWord w
theorem vx_ot_at {args a' : Array Value} {s U : State} {w : Cond} (hW : s.WarmedH U.vm) (hvm : s.vm = U.vm) (hg : vx_ot w = true) (h : w.before args s = true) : w.before a' U = true := by
  simp only [vx_ot, Bool.or_eq_true] at hg
  rcases hg with hg | hg
  · exact va_tabs hg hvm h
  · exact word_at hW (good_of_word hg) h
/-- a list's words: the good ones out of the method's own list, the others by premises of their own -/
theorem vx_hat {args : Array Value} {s : State} {L B : List Cond} (h1 : ∀ w ∈ L.filter goodWord, w.before args s = true) (h2 : ∀ w ∈ L.filter (fun w => !goodWord w), w ∈ B) (h3 : ∀ w ∈ B, w.before args s = true) : ∀ w ∈ L, w.before args s = true := by
  intro w hw
  by_cases g : goodWord w = true
  · exact h1 w (List.mem_filter.mpr ⟨hw, g⟩)
  · refine h3 w (h2 w (List.mem_filter.mpr ⟨hw, ?_⟩))
    show (!goodWord w) = true
    cases hgw : goodWord w
    · rfl
    · exact absurd hgw g
theorem vx_c {args : Array Value} {s : State} {w : Cond} {B : List Cond} (h : w.before args s = true) (t : ∀ w ∈ B, w.before args s = true) : ∀ w' ∈ w :: B, w'.before args s = true := fun w' h' => (List.mem_cons.mp h').elim (fun e => by rw [e]; exact h) (t w')
theorem vx_n {args : Array Value} {s : State} : ∀ w ∈ ([] : List Cond), w.before args s = true := fun _ h => nomatch h
theorem vx_own {args : Array Value} {s : State} {L : List Cond} (h1 : ∀ w ∈ L.filter vx_no, w.before args s = true)
    (hU : (Cond.isRef (.static Bundle.tN "UNASSIGNED_STACK" Bundle.steD)).before args s = true) (hN : (Cond.isRef (.static Bundle.tN "SUPPRESSED_SENTINEL" Bundle.listD)).before args s = true)
    (lU : (Cond.laysStatic Bundle.tN "UNASSIGNED_STACK" Bundle.steD).before args s = true) (lN : (Cond.laysStatic Bundle.tN "SUPPRESSED_SENTINEL" Bundle.listD).before args s = true) : ∀ w ∈ L, w.before args s = true := by
  intro w hw
  by_cases e1 : w = .isRef (.static Bundle.tN "UNASSIGNED_STACK" Bundle.steD)
  · rw [e1]; exact hU
  · by_cases e2 : w = .isRef (.static Bundle.tN "SUPPRESSED_SENTINEL" Bundle.listD)
    · rw [e2]; exact hN
    · by_cases e3 : w = .laysStatic Bundle.tN "UNASSIGNED_STACK" Bundle.steD
      · rw [e3]; exact lU
      · by_cases e4 : w = .laysStatic Bundle.tN "SUPPRESSED_SENTINEL" Bundle.listD
        · rw [e4]; exact lN
        · exact h1 w (List.mem_filter.mpr ⟨hw, by unfold vx_no; rw [decide_eq_true e1, decide_eq_true e2, decide_eq_true e3, decide_eq_true e4]; rfl⟩)
/-- where a static field lies, its class's statics cell in H -/
def vx_L (C n d : String) (A : Nat → Prop) (U : State) (H : Heap) : Prop := ∃ (c : ClassId) (k : Class) (i : Nat) (f : Field) (a : Nat) (cell : Cell), U.vm.findClass C = some c ∧ U.fieldFound? C n d = some (c, k, i, f) ∧ f.isStatic = true ∧ k.statics = some a ∧ H[a]? = some cell ∧ cell.vm.isStatics = true ∧ cell.cls = c ∧ f.slot < cell.slots.size ∧ k.staticTypes[f.slot]? = some f.type ∧ ¬ A a
theorem vx_L.moved {C n d : String} {A : Nat → Prop} {u U : State} {H : Heap} (hvm : u.vm.Alike U.vm) (h : vx_L C n d A u H) : vx_L C n d A U H := by
  obtain ⟨c, k, i, f, a, cell, h1, h2, h3, h4, h5, h6, h7, h8, h9, h10⟩ := h
  obtain ⟨k', hi', he⟩ := State.fieldFound?_setVm hvm h2
  exact ⟨c, k', i, f, a, cell, by rw [hvm.findClass]; exact h1, hi', h3, by rw [he]; exact h4, h5, h6, h7, h8, by rw [he]; exact h9, h10⟩
theorem vx_L.kept {C n d : String} {A : Nat → Prop} {U : State} {H H1 : Heap} (h : vx_L C n d A U H) (hq : ∀ a : Nat, a < H.size → ¬ A a → H1[a]? = H[a]?) : vx_L C n d A U H1 := by
  obtain ⟨c, k, i, f, a, cell, h1, h2, h3, h4, h5, h6, h7, h8, h9, h10⟩ := h
  exact ⟨c, k, i, f, a, cell, h1, h2, h3, h4, by rw [hq a (Array.getElem?_eq_some_iff.mp h5).1 h10]; exact h5, h6, h7, h8, h9, h10⟩
theorem vx_L.narrow {C n d : String} {A B : Nat → Prop} {U : State} {H : Heap} (h : vx_L C n d A U H) (hAB : ∀ q, B q → A q) : vx_L C n d B U H := by
  obtain ⟨c, k, i, f, a, cell, h1, h2, h3, h4, h5, h6, h7, h8, h9, h10⟩ := h
  exact ⟨c, k, i, f, a, cell, h1, h2, h3, h4, h5, h6, h7, h8, h9, fun z => h10 (hAB _ z)⟩
theorem vx_L.word {C n d : String} {A : Nat → Prop} {s : State} {args : Array Value} (h : vx_L C n d A s s.heap) : (Cond.laysStatic C n d).before args s = true := by
  obtain ⟨c, k, i, f, a, cell, h1, h2, h3, h4, h5, h6, h7, h8, h9, -⟩ := h
  show (Cond.laysStatic C n d).holds args s none s [] = true
  exact Cond.laysStatic_of h1 h2 h3 h4 h5 h6 h7 h8 h9
/-- .. and what it holds: null or some reference -/
def vx_Zq (C n d : String) (A : Nat → Prop) (U : State) (H : Heap) : Prop := va_Zq C n d A U H ∧ vx_L C n d A U H
theorem vx_Zq.moved {C n d : String} {A : Nat → Prop} {u U : State} {H : Heap} (hvm : u.vm.Alike U.vm) (h : vx_Zq C n d A u H) : vx_Zq C n d A U H := ⟨va_Zq.moved hvm h.1, vx_L.moved hvm h.2⟩
theorem vx_Zq.kept {C n d : String} {A : Nat → Prop} {U : State} {H H1 : Heap} (h : vx_Zq C n d A U H) (hq : ∀ a : Nat, a < H.size → ¬ A a → H1[a]? = H[a]?) : vx_Zq C n d A U H1 := ⟨va_Zq.kept h.1 hq, vx_L.kept h.2 hq⟩
theorem vx_Zq.narrow {C n d : String} {A B : Nat → Prop} {U : State} {H : Heap} (h : vx_Zq C n d A U H) (hAB : ∀ q, B q → A q) : vx_Zq C n d B U H := ⟨va_Zq.narrow h.1 hAB, vx_L.narrow h.2 hAB⟩
theorem vx_Zqof {args : Array Value} {s : State} {C n d : String} {A : Nat → Prop} (hl : (Cond.laysStatic C n d).before args s = true) (hini : (Cond.initialized C).before args s = true) (h : (Cond.isRef (.static C n d)).before args s = true) (hA : ∀ a : Nat, a < s.heap.size → ¬ A a) : vx_Zq C n d A s s.heap := by
  refine ⟨va_Zqof hl hini h hA, ?_⟩
  obtain ⟨c, k, i, f, a, cell, h1, h2, h3, h4, h5, h6, h7, h8, h9⟩ := Cond.laysStatic_spec hl
  exact ⟨c, k, i, f, a, cell, h1, h2, h3, h4, h5, h6, h7, h8, h9, hA a (Array.getElem?_eq_some_iff.mp h5).1⟩
theorem vx_isRef {C n d : String} {v : Value} {A : Nat → Prop} {s : State} {args : Array Value} (h : va_Z C n d v A s s.heap) (hv : v.isRef = true) : (Cond.isRef (.static C n d)).before args s = true := by
  obtain ⟨cf, kf, fi, f, a, cell, h1, h2, h3, h4, h5, h6, h7, -⟩ := h
  have he : (Term.static C n d).eval args s none [] s = some v := by
    simp [Term.eval, State.fieldNamed?, h1, h2, h4, h5, h6, h7]
  simp only [Cond.before, Cond.holds, Cond.value, he]
  cases v <;> simp_all [Value.isRef]
theorem vx_isRefq {C n d : String} {A : Nat → Prop} {s : State} {args : Array Value} (h : va_Zq C n d A s s.heap) : (Cond.isRef (.static C n d)).before args s = true := by
  rcases h with h | ⟨t, h⟩
  · exact vx_isRef h rfl
  · exact vx_isRef h rfl
/-- the same frame, seen from here: as if the method were called anew in this heap -/
theorem vx_rebase {T : State} (X : Stand p l e R s m args below meth c T locs cells slots) {R' : Room} (hf : R'.frames ≤ R.frames) (hl : R'.locals ≤ R.locals) (hc : cells + R'.cells ≤ R.cells) (hs : slots + R'.slots ≤ R.slots) :
    Stand p l e R' ((T.setVm s.vm).setFrames (.invoking m args :: below)) m args below meth c T [] 0 0 := by
  have htop : (T.setVm s.vm).topJava?.isSome := X.here.top
  have hF : ((T.setVm s.vm).setFrames (.invoking m args :: below)).frames = .invoking m args :: below := State.frames_setFrames _ (State.cur_lt_of_top htop)
  obtain ⟨g₀, hg0⟩ := Option.isSome_iff_exists.mp htop
  obtain ⟨r, hr⟩ := State.topJava?_eq_some.mp hg0
  have hl9 : e.platform.stackLimits (T.setVm s.vm).me = e.platform.stackLimits s.me := X.limits
  have hb9 : (T.setVm s.vm).me.stackBytes = s.me.stackBytes := X.bytes
  refine ⟨X.admits, X.cas, X.clock, hF, ?_, X.hears, X.method, X.code, X.here, X.tail, X.warmed, ?_, ?_, ?_⟩
  · have h := X.room
    have hU : ((T.setVm s.vm).setFrames (.invoking m args :: below)).localsInUse = s.localsInUse := by
      rw [State.localsInUse_invoking hF (meth := meth) (c := c) X.method X.code, State.localsInUse_invoking X.frames X.method X.code]
    simp only [State.hasRoom, Bool.and_eq_true, decide_eq_true_eq] at h ⊢
    obtain ⟨⟨⟨⟨h1, h2, h3, h4, h5, h6⟩, h7⟩, h8⟩, h9⟩ := h
    rw [X.frames, List.length_cons] at h2 h3
    have q1 := X.heapSize
    have q2 := X.used
    simp only [hF, hU, List.length_cons, State.stackLimits_setFrames, State.stackBytes_setFrames, hl9, hb9]
    refine ⟨⟨⟨⟨by omega, by omega, by omega, by omega, by omega, h6⟩, ?_⟩, ?_⟩, X.book⟩
    · show T.heap.size + R'.cells ≤ e.platform.maxCells
      omega
    · show T.slotsUsed + R'.slots ≤ e.platform.maxSlots
      omega
  · rw [State.stackLimits_setFrames]; rfl
  · rw [State.stackBytes_setFrames]; rfl
  · refine ⟨?_, Nat.le_refl _, Nat.le_refl _, ?_, ?_, fun a c9 h9 => ⟨c9, h9, rfl, rfl, fun _ _ => rfl⟩⟩
    · obtain ⟨t, ht, -⟩ := State.frames_cons hr
      show T.setVm s.vm = { ((T.setVm s.vm).setFrames (.invoking m args :: below)).setFrames (T.setVm s.vm).frames with heap := T.heap, slotsUsed := T.slotsUsed }
      rw [State.setFrames_setFrames, State.setFrames_self ht]
      rfl
    · show T.slotsUsed = T.slotsUsed + ((T.heap.toList.drop T.heap.size).map (·.slots.size)).sum
      rw [List.drop_eq_nil_of_le (Nat.le_of_eq Array.length_toList)]
      rfl
    · show ((T.heap.toList.drop T.heap.size).map (·.slots.size)).sum ≤ 0
      rw [List.drop_eq_nil_of_le (Nat.le_of_eq Array.length_toList)]
      exact Nat.le_refl _
/-- 'throw new E()': new; dup; invokespecial; athrow -/
theorem vx_throw0 {cc : ByteArray} {pc : Nat} (hexec : p.tables.exec = Jvm.exec) (hb : c.code = cc) (hl : l.stackTraces = false) {own cls : String} {names : List String} {ik ic mc ms : Nat} {A : Nat → Prop}
    (hown : s.vm.findClass own = some m.cls) (hcls : Bundle.fit cls = true) (hnames : ∀ n ∈ names, Bundle.fit n = true)
    (hk : (Cond.classLink own ik cls).before args s = true) (hini : (Cond.initialized cls).before args s = true) (hat : ∀ w ∈ vx_at0 own ic cls names, w.before args s = true)
    (hgood : ∀ w ∈ Cond.classLink own ik cls :: Cond.initialized cls :: vx_at0 own ic cls names, vx_ot w = true)
    (hU : vx_Zq Bundle.tN "UNASSIGNED_STACK" Bundle.steD A s s.heap) (hN : vx_Zq Bundle.tN "SUPPRESSED_SENTINEL" Bundle.listD A s s.heap) (hS : va_S A s.heap H locs) (hsize : ls.size = c.maxLocals)
    (d0 : decode cc pc = .ok (.new ik, 3)) (d3 : decode cc (pc + 3) = .ok (.dup, 1)) (d4 : decode cc (pc + 4) = .ok (.invokespecial ic, 3)) (d7 : decode cc (pc + 7) = .ok (.athrow, 1))
    (hout : ∀ x ∈ c.exceptionTable.toList, covers x (pc + 7) = false)
    (hRframes : names.length + 3 < R.frames) (hRlocals : (rest.map fun v => v.category).sum + (13 * (names.length + 1) + 42) ≤ R.locals) (hRcells : cells + 1 ≤ R.cells) (hRslots : slots + 6 ≤ R.slots) (hlocks : meth.locks = false)
    (hx : ∀ t : State, s.vm.Alike t.vm → H.size ≤ t.heap.size → (∀ q : Nat, q < H.size → t.heap[q]? = H[q]?) → XC cls s t)
    (hf : ∀ z ∈ locs, free z.base) (hc : cells + 1 ≤ mc) (hs : slots + 6 ≤ ms) :
    W p l e R s m args below meth c H locs cells slots (vx_MQ below Qc XC args s mc ms free) (F0 m pc ls rest) := by
  intro T hT X
  have htr : e.platform.stackTraces = false := (show e.platform.stackTraces = l.stackTraces by rw [X.admits.platform]).trans hl
  have Y := vx_rebase X (R' := { frames := R.frames, locals := R.locals, cells := 1, slots := 6 }) (Nat.le_refl _) (Nat.le_refl _) hRcells hRslots
  obtain ⟨s', hA⟩ : ∃ z, z = (T.setVm s.vm).setFrames (.invoking m args :: below) := ⟨_, rfl⟩
  rw [← hA] at Y
  have hvm : s'.vm = s.vm := by rw [hA]; rfl
  have hhp : s'.heap = H := by rw [hA]; exact hT
  have hW0 : s.WarmedH s'.vm := by rw [hvm]; exact State.WarmedH.refl s
  have hat' : ∀ w ∈ vx_at0 own ic cls names, w.before args s' = true := fun w hw => vx_ot_at hW0 hvm.symm (hgood w (List.mem_cons_of_mem _ (List.mem_cons_of_mem _ hw))) (hat w hw)
  have hk' : (Cond.classLink own ik cls).before args s' = true := vx_ot_at hW0 hvm.symm (hgood _ List.mem_cons_self) hk
  have hini' : (Cond.initialized cls).before args s' = true := vx_ot_at hW0 hvm.symm (hgood _ (List.mem_cons_of_mem _ List.mem_cons_self)) hini
  have hU' : vx_Zq Bundle.tN "UNASSIGNED_STACK" Bundle.steD A s' s'.heap := by rw [hhp]; exact vx_Zq.moved hW0.alike (hU.kept hS.2.1)
  have hN' : vx_Zq Bundle.tN "SUPPRESSED_SENTINEL" Bundle.listD A s' s'.heap := by rw [hhp]; exact vx_Zq.moved hW0.alike (hN.kept hS.2.1)
  have h : ∀ w ∈ Bundle.ownAtoms0 own ic cls names, w.before args s' = true := vx_own hat' (vx_isRefq hU'.1) (vx_isRefq hN'.1) hU'.2.word hN'.2.word
  have hown' : s'.vm.findClass own = some m.cls := by rw [hvm]; exact hown
  have hins : (Cond.instantiable cls 6).before args s' = true := h _ (by simp [Bundle.ownAtoms0])
  obtain ⟨vm₁, cX, kX, hfX, hkX, -, -, X₁, st1⟩ := Y.newCold hexec (own := own) (C := cls) (index := ik) (n := 6) hown' hk' hins hini'
    (g := F0 m pc ls rest) rfl (by rw [hb]; exact d0) (Nat.le_refl _) (Nat.le_refl _)
  generalize hT1 : (T.setVm vm₁).pushCell { cls := cX, slots := kX.instanceTypes.map defaultValue, vm := .none } = T1 at X₁ st1
  have hcat : (Value.ref T.heap.size).category = 1 := rfl
  have hcellA : T1.heap[T.heap.size]? = some (freshCell cX kX) := by rw [← hT1]; exact State.heap_pushCell_size _ _
  have d3' : decode c.code (pc + 3) = .ok (.dup, 1) := by rw [hb]; exact d3
  obtain ⟨U, hsteps, hrun, hend, hW, hsame, ce, hce, hO⟩ := X₁.ctorThrow0 hexec htr (own := own) (cls := cls) (names := names) (ic := ic) hown' hcls hnames h (fun x hx => nomatch hx) hfX hkX hcellA (by rw [hhp, hT]; exact Nat.le_refl _)
    (g := { method := m, pc := pc + 4, locals := ls, stack := .ref T.heap.size :: .ref T.heap.size :: rest, locked := none }) rfl hsize rfl rfl (rest := rest) rfl
    (by rw [hb]; exact d4) (by rw [hb]; exact d7) hout hRframes (by simp only [List.map_cons, List.sum_cons, hcat]; omega) hlocks
  obtain ⟨f1, f2⟩ := vx_frame hsame
  rw [hhp] at f1 f2
  have hWs : s.WarmedH U.vm := State.WarmedH.trans hW0 hW
  have hcl : s.vm.findClass cls = some ce.cls := by
    have h9 := hO.cls
    rw [hvm] at h9
    exact h9
  have hall : s.sameButNew ({ U with vm := s.vm } : State) locs mc ms := by
    subst hA
    obtain ⟨e1, e2⟩ := hsame
    rw [State.setFrames_setFrames] at e1
    have h2 : (T.setVm s.vm).sameButNew ({ U with vm := s.vm } : State) [] (0 + 1) (0 + 6) := ⟨e1, e2⟩
    have h3 := X.same.trans h2
    rw [List.append_nil] at h3
    exact h3.mono hc hs
  refine ⟨U, ?_, .threw T.heap.size, hrun, hend, Or.inr ⟨T.heap.size, rfl, cls, ce, locs, hx U hWs.alike f1 (fun q hq => f2 q hq (fun z hz => nomatch hz)), hce, hO.vm, hcl, hWs, hall, hf⟩⟩
  refine st1 _ ?_
  show Steps p.tables e below (T1.setTop { method := m, pc := pc + 3, locals := ls, stack := .ref T.heap.size :: rest, locked := none }) _
  jvm_step X₁.here [X₁.here.top, hexec, d3', Value.category]
  exact hsteps
/-- 'throw new E("text")': new; dup; ldc; invokespecial; athrow -/
theorem vx_throwS {cc : ByteArray} {pc : Nat} (hexec : p.tables.exec = Jvm.exec) (hb : c.code = cc) (hl : l.stackTraces = false) {own cls text : String} {names : List String} {ik is ic mc ms sa : Nat} {A : Nat → Prop}
    (hown : s.vm.findClass own = some m.cls) (hcls : Bundle.fit cls = true) (hnames : ∀ n ∈ names, Bundle.fit n = true)
    (hk : (Cond.classLink own ik cls).before args s = true) (hini : (Cond.initialized cls).before args s = true) (hstr : vk_R own is text sa s) (hat : ∀ w ∈ vx_atS own ic cls names, w.before args s = true)
    (hgood : ∀ w ∈ Cond.classLink own ik cls :: Cond.initialized cls :: vx_atS own ic cls names, vx_ot w = true)
    (hU : vx_Zq Bundle.tN "UNASSIGNED_STACK" Bundle.steD A s s.heap) (hN : vx_Zq Bundle.tN "SUPPRESSED_SENTINEL" Bundle.listD A s s.heap) (hS : va_S A s.heap H locs) (hsize : ls.size = c.maxLocals)
    (d0 : decode cc pc = .ok (.new ik, 3)) (d3 : decode cc (pc + 3) = .ok (.dup, 1)) (d4 : decode cc (pc + 4) = .ok (.ldc is, 2)) (d6 : decode cc (pc + 6) = .ok (.invokespecial ic, 3)) (d9 : decode cc (pc + 9) = .ok (.athrow, 1))
    (hout : ∀ x ∈ c.exceptionTable.toList, covers x (pc + 9) = false)
    (hRframes : names.length + 3 < R.frames) (hRlocals : (rest.map fun v => v.category).sum + (13 * (names.length + 1) + 43) ≤ R.locals) (hRcells : cells + 1 ≤ R.cells) (hRslots : slots + 6 ≤ R.slots) (hlocks : meth.locks = false)
    (hx : ∀ t : State, s.vm.Alike t.vm → H.size ≤ t.heap.size → (∀ q : Nat, q < H.size → t.heap[q]? = H[q]?) → XC cls s t)
    (hf : ∀ z ∈ locs, free z.base) (hc : cells + 1 ≤ mc) (hs : slots + 6 ≤ ms) :
    W p l e R s m args below meth c H locs cells slots (vx_MQ below Qc XC args s mc ms free) (F0 m pc ls rest) := by
  intro T hT X
  have htr : e.platform.stackTraces = false := (show e.platform.stackTraces = l.stackTraces by rw [X.admits.platform]).trans hl
  have Y := vx_rebase X (R' := { frames := R.frames, locals := R.locals, cells := 1, slots := 6 }) (Nat.le_refl _) (Nat.le_refl _) hRcells hRslots
  obtain ⟨s', hA⟩ : ∃ z, z = (T.setVm s.vm).setFrames (.invoking m args :: below) := ⟨_, rfl⟩
  rw [← hA] at Y
  have hvm : s'.vm = s.vm := by rw [hA]; rfl
  have hhp : s'.heap = H := by rw [hA]; exact hT
  have hW0 : s.WarmedH s'.vm := by rw [hvm]; exact State.WarmedH.refl s
  have hat' : ∀ w ∈ vx_atS own ic cls names, w.before args s' = true := fun w hw => vx_ot_at hW0 hvm.symm (hgood w (List.mem_cons_of_mem _ (List.mem_cons_of_mem _ hw))) (hat w hw)
  have hk' : (Cond.classLink own ik cls).before args s' = true := vx_ot_at hW0 hvm.symm (hgood _ List.mem_cons_self) hk
  have hini' : (Cond.initialized cls).before args s' = true := vx_ot_at hW0 hvm.symm (hgood _ (List.mem_cons_of_mem _ List.mem_cons_self)) hini
  have hU' : vx_Zq Bundle.tN "UNASSIGNED_STACK" Bundle.steD A s' s'.heap := by rw [hhp]; exact vx_Zq.moved hW0.alike (hU.kept hS.2.1)
  have hN' : vx_Zq Bundle.tN "SUPPRESSED_SENTINEL" Bundle.listD A s' s'.heap := by rw [hhp]; exact vx_Zq.moved hW0.alike (hN.kept hS.2.1)
  have h : ∀ w ∈ Bundle.ownAtoms own ic cls names, w.before args s' = true := vx_own hat' (vx_isRefq hU'.1) (vx_isRefq hN'.1) hU'.2.word hN'.2.word
  have hown' : s'.vm.findClass own = some m.cls := by rw [hvm]; exact hown
  have hins : (Cond.instantiable cls 6).before args s' = true := h _ (by simp [Bundle.ownAtoms])
  obtain ⟨vm₁, cX, kX, hfX, hkX, -, -, X₁, st1⟩ := Y.newCold hexec (own := own) (C := cls) (index := ik) (n := 6) hown' hk' hins hini'
    (g := F0 m pc ls rest) rfl (by rw [hb]; exact d0) (Nat.le_refl _) (Nat.le_refl _)
  generalize hT1 : (T.setVm vm₁).pushCell { cls := cX, slots := kX.instanceTypes.map defaultValue, vm := .none } = T1 at X₁ st1
  have hcat : (Value.ref T.heap.size).category = 1 := rfl
  have hcellA : T1.heap[T.heap.size]? = some (freshCell cX kX) := by rw [← hT1]; exact State.heap_pushCell_size _ _
  have d3' : decode c.code (pc + 3) = .ok (.dup, 1) := by rw [hb]; exact d3
  have d4' : decode c.code (pc + 4) = .ok (.ldc is, 2) := by rw [hb]; exact d4
  have hstr' : vk_R own is text sa s' := vk_R.warm hW0 hstr
  obtain ⟨U, hsteps, hrun, hend, hW, hsame, ce, hce, hO⟩ := X₁.ctorThrowS hexec htr (own := own) (cls := cls) (names := names) (ic := ic) hown' hcls hnames h (fun x hx => nomatch hx) hfX hkX hcellA (by rw [hhp, hT]; exact Nat.le_refl _) (msg := .ref sa) rfl
    (g := { method := m, pc := pc + 6, locals := ls, stack := .ref sa :: .ref T.heap.size :: .ref T.heap.size :: rest, locked := none }) rfl hsize rfl rfl (rest := rest) rfl
    (by rw [hb]; exact d6) (by rw [hb]; exact d9) hout hRframes (by simp only [List.map_cons, List.sum_cons, hcat]; omega) hlocks
  obtain ⟨f1, f2⟩ := vx_frame hsame
  rw [hhp] at f1 f2
  have hWs : s.WarmedH U.vm := State.WarmedH.trans hW0 hW
  have hcl : s.vm.findClass cls = some ce.cls := by
    have h9 := hO.cls
    rw [hvm] at h9
    exact h9
  have hall : s.sameButNew ({ U with vm := s.vm } : State) locs mc ms := by
    subst hA
    obtain ⟨e1, e2⟩ := hsame
    rw [State.setFrames_setFrames] at e1
    have h2 : (T.setVm s.vm).sameButNew ({ U with vm := s.vm } : State) [] (0 + 1) (0 + 6) := ⟨e1, e2⟩
    have h3 := X.same.trans h2
    rw [List.append_nil] at h3
    exact h3.mono hc hs
  refine ⟨U, ?_, .threw T.heap.size, hrun, hend, Or.inr ⟨T.heap.size, rfl, cls, ce, locs, hx U hWs.alike f1 (fun q hq => f2 q hq (fun z hz => nomatch hz)), hce, hO.vm, hcl, hWs, hall, hf⟩⟩
  refine st1 _ ?_
  show Steps p.tables e below (T1.setTop { method := m, pc := pc + 3, locals := ls, stack := .ref T.heap.size :: rest, locked := none }) _
  jvm_step X₁.here [X₁.here.top, hexec, d3', Value.category]
  exact X₁.ldcString hexec (own := own) (text := text) (index := is) (a := sa) hown' hstr'.1 hstr'.2
    (g := { method := m, pc := pc + 4, locals := ls, stack := .ref T.heap.size :: .ref T.heap.size :: rest, locked := none }) rfl d4' _ hsteps
/-- 'throw new E("text")', the text by a wide index -/
theorem vx_throwSW {cc : ByteArray} {pc : Nat} (hexec : p.tables.exec = Jvm.exec) (hb : c.code = cc) (hl : l.stackTraces = false) {own cls text : String} {names : List String} {ik is ic mc ms sa : Nat} {A : Nat → Prop}
    (hown : s.vm.findClass own = some m.cls) (hcls : Bundle.fit cls = true) (hnames : ∀ n ∈ names, Bundle.fit n = true)
    (hk : (Cond.classLink own ik cls).before args s = true) (hini : (Cond.initialized cls).before args s = true) (hstr : vk_R own is text sa s) (hat : ∀ w ∈ vx_atS own ic cls names, w.before args s = true)
    (hgood : ∀ w ∈ Cond.classLink own ik cls :: Cond.initialized cls :: vx_atS own ic cls names, vx_ot w = true)
    (hU : vx_Zq Bundle.tN "UNASSIGNED_STACK" Bundle.steD A s s.heap) (hN : vx_Zq Bundle.tN "SUPPRESSED_SENTINEL" Bundle.listD A s s.heap) (hS : va_S A s.heap H locs) (hsize : ls.size = c.maxLocals)
    (d0 : decode cc pc = .ok (.new ik, 3)) (d3 : decode cc (pc + 3) = .ok (.dup, 1)) (d4 : decode cc (pc + 4) = .ok (.ldc_w is, 3)) (d7 : decode cc (pc + 7) = .ok (.invokespecial ic, 3)) (d10 : decode cc (pc + 10) = .ok (.athrow, 1))
    (hout : ∀ x ∈ c.exceptionTable.toList, covers x (pc + 10) = false)
    (hRframes : names.length + 3 < R.frames) (hRlocals : (rest.map fun v => v.category).sum + (13 * (names.length + 1) + 43) ≤ R.locals) (hRcells : cells + 1 ≤ R.cells) (hRslots : slots + 6 ≤ R.slots) (hlocks : meth.locks = false)
    (hx : ∀ t : State, s.vm.Alike t.vm → H.size ≤ t.heap.size → (∀ q : Nat, q < H.size → t.heap[q]? = H[q]?) → XC cls s t)
    (hf : ∀ z ∈ locs, free z.base) (hc : cells + 1 ≤ mc) (hs : slots + 6 ≤ ms) :
    W p l e R s m args below meth c H locs cells slots (vx_MQ below Qc XC args s mc ms free) (F0 m pc ls rest) := by
  intro T hT X
  have htr : e.platform.stackTraces = false := (show e.platform.stackTraces = l.stackTraces by rw [X.admits.platform]).trans hl
  have Y := vx_rebase X (R' := { frames := R.frames, locals := R.locals, cells := 1, slots := 6 }) (Nat.le_refl _) (Nat.le_refl _) hRcells hRslots
  obtain ⟨s', hA⟩ : ∃ z, z = (T.setVm s.vm).setFrames (.invoking m args :: below) := ⟨_, rfl⟩
  rw [← hA] at Y
  have hvm : s'.vm = s.vm := by rw [hA]; rfl
  have hhp : s'.heap = H := by rw [hA]; exact hT
  have hW0 : s.WarmedH s'.vm := by rw [hvm]; exact State.WarmedH.refl s
  have hat' : ∀ w ∈ vx_atS own ic cls names, w.before args s' = true := fun w hw => vx_ot_at hW0 hvm.symm (hgood w (List.mem_cons_of_mem _ (List.mem_cons_of_mem _ hw))) (hat w hw)
  have hk' : (Cond.classLink own ik cls).before args s' = true := vx_ot_at hW0 hvm.symm (hgood _ List.mem_cons_self) hk
  have hini' : (Cond.initialized cls).before args s' = true := vx_ot_at hW0 hvm.symm (hgood _ (List.mem_cons_of_mem _ List.mem_cons_self)) hini
  have hU' : vx_Zq Bundle.tN "UNASSIGNED_STACK" Bundle.steD A s' s'.heap := by rw [hhp]; exact vx_Zq.moved hW0.alike (hU.kept hS.2.1)
  have hN' : vx_Zq Bundle.tN "SUPPRESSED_SENTINEL" Bundle.listD A s' s'.heap := by rw [hhp]; exact vx_Zq.moved hW0.alike (hN.kept hS.2.1)
  have h : ∀ w ∈ Bundle.ownAtoms own ic cls names, w.before args s' = true := vx_own hat' (vx_isRefq hU'.1) (vx_isRefq hN'.1) hU'.2.word hN'.2.word
  have hown' : s'.vm.findClass own = some m.cls := by rw [hvm]; exact hown
  have hins : (Cond.instantiable cls 6).before args s' = true := h _ (by simp [Bundle.ownAtoms])
  obtain ⟨vm₁, cX, kX, hfX, hkX, -, -, X₁, st1⟩ := Y.newCold hexec (own := own) (C := cls) (index := ik) (n := 6) hown' hk' hins hini'
    (g := F0 m pc ls rest) rfl (by rw [hb]; exact d0) (Nat.le_refl _) (Nat.le_refl _)
  generalize hT1 : (T.setVm vm₁).pushCell { cls := cX, slots := kX.instanceTypes.map defaultValue, vm := .none } = T1 at X₁ st1
  have hcat : (Value.ref T.heap.size).category = 1 := rfl
  have hcellA : T1.heap[T.heap.size]? = some (freshCell cX kX) := by rw [← hT1]; exact State.heap_pushCell_size _ _
  have d3' : decode c.code (pc + 3) = .ok (.dup, 1) := by rw [hb]; exact d3
  have d4' : decode c.code (pc + 4) = .ok (.ldc_w is, 3) := by rw [hb]; exact d4
  have hstr' : vk_R own is text sa s' := vk_R.warm hW0 hstr
  obtain ⟨U, hsteps, hrun, hend, hW, hsame, ce, hce, hO⟩ := X₁.ctorThrowS hexec htr (own := own) (cls := cls) (names := names) (ic := ic) hown' hcls hnames h (fun x hx => nomatch hx) hfX hkX hcellA (by rw [hhp, hT]; exact Nat.le_refl _) (msg := .ref sa) rfl
    (g := { method := m, pc := pc + 7, locals := ls, stack := .ref sa :: .ref T.heap.size :: .ref T.heap.size :: rest, locked := none }) rfl hsize rfl rfl (rest := rest) rfl
    (by rw [hb]; exact d7) (by rw [hb]; exact d10) hout hRframes (by simp only [List.map_cons, List.sum_cons, hcat]; omega) hlocks
  obtain ⟨f1, f2⟩ := vx_frame hsame
  rw [hhp] at f1 f2
  have hWs : s.WarmedH U.vm := State.WarmedH.trans hW0 hW
  have hcl : s.vm.findClass cls = some ce.cls := by
    have h9 := hO.cls
    rw [hvm] at h9
    exact h9
  have hall : s.sameButNew ({ U with vm := s.vm } : State) locs mc ms := by
    subst hA
    obtain ⟨e1, e2⟩ := hsame
    rw [State.setFrames_setFrames] at e1
    have h2 : (T.setVm s.vm).sameButNew ({ U with vm := s.vm } : State) [] (0 + 1) (0 + 6) := ⟨e1, e2⟩
    have h3 := X.same.trans h2
    rw [List.append_nil] at h3
    exact h3.mono hc hs
  refine ⟨U, ?_, .threw T.heap.size, hrun, hend, Or.inr ⟨T.heap.size, rfl, cls, ce, locs, hx U hWs.alike f1 (fun q hq => f2 q hq (fun z hz => nomatch hz)), hce, hO.vm, hcl, hWs, hall, hf⟩⟩
  refine st1 _ ?_
  show Steps p.tables e below (T1.setTop { method := m, pc := pc + 3, locals := ls, stack := .ref T.heap.size :: rest, locked := none }) _
  jvm_step X₁.here [X₁.here.top, hexec, d3', Value.category]
  exact X₁.ldcStringW hexec (own := own) (text := text) (index := is) (a := sa) hown' hstr'.1 hstr'.2
    (g := { method := m, pc := pc + 4, locals := ls, stack := .ref T.heap.size :: .ref T.heap.size :: rest, locked := none }) rfl d4' _ hsteps
end Ends
section Bodies
variable {l : Launch}
theorem vx_ofW {y : MethodName} {ws ws' : List Cond} {rm : Room} {Pc : Array Value → State → Prop} {Qc : Array Value → State → Outcome → State → Prop} {XC : String → State → State → Prop} {mc ms : Nat} {free : Addr → Prop} {cc : ByteArray} {maxL : Nat} {ret : Option FieldType}
    (hy : plainName y.cls = true) (hw : ws = Cond.code y cc maxL ret :: ws')
    (body : ∀ p e s m args below meth c s₁, BodyLoose p l y (headSpec ws rm) cc maxL ret e s m args below meth c s₁ → c.maxLocals = maxL → (∀ x ∈ c.exceptionTable.toList, False) → Pc args s →
      W p l e (headSpec ws rm).room s m args below meth c s.heap [] 0 0 (vx_MQ below Qc XC args s mc ms free) (entryFrame m args maxL)) : vx_Met l y ws rm Pc Qc XC mc ms free := by
  refine MetFree.of_bodyS (code := cc) (maxLocals := maxL) (ret := ret) hy ?_ ?_
  · intro args s m h hn
    obtain ⟨meth, c, h1, h2, h3, h4, h5, h6, -, -⟩ := Cond.code_spec hn (atoms_spec (ws := ws) h _ (by rw [hw]; exact List.mem_cons_self))
    exact ⟨meth, c, h1, h2, h3, h4, h5, h6⟩
  · intro p e s m args below meth c s₁ B hml hP _
    have hh0 : s₁.heap = s.heap := by rw [B.state]; rfl
    have ht : ∀ x ∈ c.exceptionTable.toList, False := by
      obtain ⟨meth9, c9, h1, h2, -, -, -, -, h7, -⟩ := Cond.code_spec B.named (atoms_spec (ws := ws) B.pre _ (by rw [hw]; exact List.mem_cons_self))
      cases Option.some.inj (h1.symm.trans B.method)
      cases Option.some.inj (h2.symm.trans (Stand.of_body B).code)
      intro x hx
      rw [Array.isEmpty_iff.mp h7] at hx
      cases hx
    obtain ⟨t, a1, o, b1, b2, b3⟩ := body p e s m args below meth c s₁ B hml ht hP s₁ hh0 (Stand.of_body B)
    exact ⟨t, o, a1, b1, b2, b3⟩
/-- the table of a body with handlers -/
theorem vx_table {p : Program} {x y : MethodName} {S : Spec} {cc bytes : ByteArray} {maxL maxL' : Nat} {ret ret' : Option FieldType} {e : Env} {s s₁ : State} {m : MethodId} {args : Array Value} {below : List Frame} {meth : Method} {c : Code} {hh : List (Nat × Nat × Nat × Nat)}
    (B : BodyLoose p l y S cc maxL ret e s m args below meth c s₁) (h : (Cond.codeWith y bytes maxL' ret' hh).before args s = true) : c.exceptionTable.toList = tableOf hh := by
  obtain ⟨m9, meth9, c9, hn9, h1, h2, -, -, h6, -⟩ := Cond.codeWith_spec h
  cases Option.some.inj (hn9.symm.trans B.named)
  cases Option.some.inj (h1.symm.trans B.method)
  cases Option.some.inj (h2.symm.trans (Stand.of_body B).code)
  rw [← h6, table_eq]
end Bodies
end VXA
/-! ===== END ===== -/
/-! ===== BEGIN a static call of a method with an exception table ===== -/
section VXS
variable {p : Program} {l : Launch} {e : Env} {R : Room} {s : State} {m : MethodId} {args : Array Value} {below : List Frame} {meth : Method} {c : Code} {T : State} {H : Heap} {locs : List Loc} {cells slots : Nat}
abbrev vx_CSW (R : Room) (s : State) (args : Array Value) (own : String) (index : Nat) (y : MethodName) (bytes : ByteArray) (maxL : Nat) (ret : Option FieldType) (hh : List (Nat × Nat × Nat × Nat)) (ws : List Cond) (rm : Room) (mc ms n : Nat) : Prop :=
  (rm.cells = mc ∧ rm.slots = ms ∧ rm.frames + 1 ≤ R.frames ∧ 8 + (maxL + 11) + rm.locals ≤ R.locals ∧ (∀ w ∈ ws, ∀ (a' : Array Value) (U : State), s.WarmedH U.vm → w.before a' U = true) ∧ Cond.codeWith y bytes maxL ret hh ∈ ws) ∧
  (Cond.codeWith y bytes maxL ret hh).before args s = true ∧ (Cond.initialized y.cls).before args s = true ∧ (y.cls ≠ "java/lang/invoke/MethodHandle" ∧ y.cls ≠ "java/lang/invoke/VarHandle") ∧
  (∀ sig, parseMethodDescriptor y.desc = some sig → n = sig.parameters.length) ∧ (Cond.methodLink own index y).before args s = true ∧ (Cond.static y).before args s = true
theorem vx_cwSW {own : String} {index maxL mc ms : Nat} {y : MethodName} {bytes : ByteArray} {ret : Option FieldType} {hh : List (Nat × Nat × Nat × Nat)} {Ts ws ws' : List Cond} {rm : Room} (n : Nat) (ht : ∀ w ∈ Ts, w.before args s = true) (hT : GoodIn Ts (va_wsS own index y ws)) (hw : ws = Cond.codeWith y bytes maxL ret hh :: ws') (hrc : rm.cells = mc) (hrs : rm.slots = ms)
    (hd : y.cls ≠ "java/lang/invoke/MethodHandle" ∧ y.cls ≠ "java/lang/invoke/VarHandle" ∧ (parseMethodDescriptor y.desc).map (fun d => d.parameters.length) = some n) (hR : rm.frames + 1 ≤ R.frames ∧ 8 + (maxL + 11) + rm.locals ≤ R.locals) :
    vx_CSW R s args own index y bytes maxL ret hh ws rm mc ms n := by
  have ok : ∀ w ∈ va_wsS own index y ws, w.before args s = true := fun w h => ht w (hT w h).1
  have hG : GoodIn Ts ws := fun w h => hT w (by unfold va_wsS; exact List.mem_append_right _ h)
  have hc : Cond.codeWith y bytes maxL ret hh ∈ ws := by rw [hw]; exact List.mem_cons_self
  refine ⟨⟨hrc, hrs, hR.1, hR.2, pay_in ht hG, hc⟩, ht _ (hG _ hc).1, ok _ (by simp [va_wsS]), ⟨hd.1, hd.2.1⟩, fun sig h => ?_, ok _ (by simp [va_wsS]), ok _ (by simp [va_wsS])⟩
  have h2 := hd.2.2
  rw [h] at h2
  exact (Option.some.inj h2).symm
theorem vx_callSW (X : Stand p l e R s m args below meth c T locs cells slots) (hexec : p.tables.exec = Jvm.exec) {own : String} {index : Nat} {y : MethodName} {bytes : ByteArray} {maxL : Nat} {ret : Option FieldType} {hh : List (Nat × Nat × Nat × Nat)}
    (hown : s.vm.findClass own = some m.cls) (hlink : (Cond.methodLink own index y).before args s = true) (hstat : (Cond.static y).before args s = true) (hinit : (Cond.initialized y.cls).before args s = true)
    (hcode : (Cond.codeWith y bytes maxL ret hh).before args s = true) (hy : y.cls ≠ "java/lang/invoke/MethodHandle" ∧ y.cls ≠ "java/lang/invoke/VarHandle")
    {W9 : Nat} {Pre : Pt → Array Value → Prop} {Post : Pt → Array Value → Option Value → Pt → Prop} (hK : Back l R p e below s args y 3 W9 Pre Post)
    {g : JFrame} (hg : g.method = m) (hsize : g.locals.size = c.maxLocals) {argsL rest : List Value} (hlen : ∀ sig, parseMethodDescriptor y.desc = some sig → argsL.length = sig.parameters.length)
    (hstack : g.stack = argsL.reverse ++ rest) (hW : 2 * g.monitorRoom + (rest.map fun v => v.category).sum ≤ W9) (hdg : decode c.code g.pc = .ok (.invokestatic index, 3))
    (hpre : ∀ vm₁, s.WarmedH vm₁ → Pre ⟨T.setVm vm₁, locs, cells, slots⟩ argsL.toArray) :
    ∃ (v : Option Value) (vm₁ : Vm) (B : Pt), s.WarmedH vm₁ ∧ Stand p l e R s m args below meth c B.U B.locs B.cells B.slots ∧ Post ⟨T.setVm vm₁, locs, cells, slots⟩ argsL.toArray v B ∧
      ∀ target, Steps p.tables e below (B.U.setTop { g with pc := g.pc + 3, stack := v.toList ++ rest }) target → Steps p.tables e below (T.setTop g) target := by
  obtain ⟨mk, methM, cM, hnamed, hmethM, -, -, -, -, -, -, hsigM⟩ := Cond.codeWith_spec hcode
  have hstatic : methM.isStatic = true := Cond.static_spec hnamed hmethM hstat
  obtain ⟨kP, hkP, -⟩ := className_of_methodNamed hnamed
  have hinitP : kP.init = .initialized := Cond.initialized_spec (findClass_of_methodNamed hnamed) hkP hinit
  obtain ⟨vm₁, X₁, hstep₁⟩ := X.invokestatic hexec hown hlink hnamed hmethM hstatic hkP hinitP hy (g := g) hg (argsL := argsL) (rest := rest) (hlen _ hsigM) hstack hdg
  obtain ⟨v, B, X', hpost, hsteps⟩ := hK m meth c ⟨T.setVm vm₁, locs, cells, slots⟩ { g with stack := rest } (.invokestatic index) mk argsL.toArray X₁ hg hsize hdg hW (X₁.named hnamed) (hpre vm₁ X₁.warmed)
  exact ⟨v, vm₁, B, X₁.warmed, X', hpost, fun target h => hstep₁ _ fun acts => by rw [doInvoke_state]; exact hsteps.trans h⟩
theorem vx_runSW {y : MethodName} {bytes cc : ByteArray} {maxL nL mc ms n index : Nat} {ret : Option FieldType} {hh : List (Nat × Nat × Nat × Nat)} {ws : List Cond} {rm : Room} {Pc : Array Value → State → Prop} {Qc : Array Value → State → Outcome → State → Prop} {free : Addr → Prop} {Ts : List Cond} {own : String} {As rest : List Value} {g : JFrame}
    (S : CallFix p m c cc nL s args Ts own) (hM : Met l y ws rm Pc Qc mc ms free) (cw : vx_CSW R s args own index y bytes maxL ret hh ws rm mc ms n) (hp : PreS s H Pc As)
    (hg : g.method = m) (hn : As.length = n) (hsize : g.locals.size = nL) (hstack : g.stack = As.reverse ++ rest) (hW : 2 * g.monitorRoom + (rest.map fun v => v.category).sum ≤ 8) (hdg : decode cc g.pc = .ok (.invokestatic index, 3)) (hf : cells + mc ≤ R.cells ∧ slots + ms ≤ R.slots) :
    va_Run p l e R s m args below meth c H locs cells slots mc ms g rest (Qc As.toArray) (free) := by
  obtain ⟨⟨hrc, hrs, hfr, hlo, hws, hcw⟩, hcode, hini, hy, hlen, hl, hstt⟩ := cw
  have hK : Back l R p e below s args y 3 8 (PreOf R mc ms Pc) (PostOf Qc mc ms free) := va_backW (hh := hh) (bytes := bytes) (maxL := maxL) (ret := ret) hM hp.1 hrc hrs hfr hlo hws hcw (fun a' U hW => word_at hW (Or.inl (by first | rfl | simp [Cond.onTables, Cond.keeps, Cond.steady])) hini)
  obtain ⟨hx, hb, hml, ho, -⟩ := S
  intro T hT X
  obtain ⟨v, vm₁, ⟨U', l2, c2, s2⟩, hW₁, X', ⟨g', mk, t, L, e1, e2, hq, h1, hL, h2, h3⟩, st⟩ := vx_callSW X hx (hh := hh) (bytes := bytes) (maxL := maxL) (ret := ret) ho hl hstt hini hcode hy hK hg (hsize.trans hml.symm) (argsL := As) (rest := rest) (fun sig h => hn.trans (hlen sig h)) hstack hW (by rw [hb]; exact hdg)
    (fun vm₁ hW₁ => ⟨hf.1, hf.2, hp.2 (T.setVm vm₁) hT hW₁⟩)
  dsimp only [Pt.U, Pt.locs, Pt.cells, Pt.slots] at X' e1 e2 h1 h2 h3 st
  subst h1; subst h2; subst h3
  exact ⟨v, (T.setVm vm₁).calling g' mk As.toArray, t, U', L, hT, X', hL, e1, e2, hq, st⟩
/-- not caught here, past rows that name other classes: it goes on to the caller -/
theorem vx_outP {p : Program} {l : Launch} {e : Env} {R : Room} {s : State} {m : MethodId} {args : Array Value} {below : List Frame} {meth : Method} {c : Code} {H : Heap} {locs : List Loc} {cells slots : Nat} {free : Addr → Prop} {ls : Array Slot} {rest : List Value} {Qc : Array Value → State → Outcome → State → Prop} {XC : String → State → State → Prop}
    {pc : Nat} {own E : String} {ce : Cell} {q : Addr} {mc ms : Nat} (hown : s.vm.findClass own = some m.cls) (hlocks : meth.locks = false)
    (hpass : ∀ z ∈ c.exceptionTable.toList, covers z pc = false ∨ (z.catchType ≠ 0 ∧ ∃ nm : String, (Cond.classLink own z.catchType nm).before args s = true ∧ va_Nc E nm s)) (hcell : H[q]? = some ce) (hv : ce.vm = .none) (hcl : s.vm.findClass E = some ce.cls)
    (hx : ∀ t : State, t.heap = H → s.vm.Alike t.vm → XC E s t) (hf : ∀ z ∈ locs, free z.base) (hc : cells ≤ mc) (hs : slots ≤ ms) :
    vx_W p l e R s m args below meth c H locs cells slots (vx_MQ below Qc XC args s mc ms free) (F0 m pc ls rest) q := by
  intro T hT X
  have hpl : e.platform.magicAccessors = ({} : Platform).magicAccessors := by rw [X.admits.platform]
  obtain ⟨vm', hW', X', st⟩ := X.outThrough hlocks q (g := F0 m pc ls rest) rfl rfl rfl (cell := ce) (by rw [hT]; exact hcell) (by rw [hv]; rfl)
    (by obtain ⟨k9, h9, -⟩ := Vm.findClass_spec hcl; exact ⟨k9, h9⟩) (fun z hz => by
      rcases hpass z hz with h | ⟨hz0, nm, hl1, hn1⟩
      · exact Or.inl h
      · obtain ⟨c6, hc6, hcl6⟩ := Cond.classLink_spec hown hl1 e.platform hpl
        obtain ⟨a8, b8, h1, h2, h3⟩ := hn1
        cases Option.some.inj (h1.symm.trans hcl)
        cases Option.some.inj (h2.symm.trans hc6)
        exact Or.inr ⟨hz0, _, hcl6, h3⟩)
  obtain ⟨g₀, hfr⟩ := X'.frames_eq
  have hcell9 : ((T.setVm vm').setFrames (.throwing q :: below)).heap[q]? = some ce := by
    show T.heap[q]? = some ce
    rw [hT]; exact hcell
  have hend : Ended ((T.setVm vm').setFrames (.throwing q :: below)) below (.threw q) := State.frames_setFrames _ (State.cur_lt_of_frames hfr)
  refine ⟨(T.setVm vm').setFrames (.throwing q :: below), ?_, .threw q, X'.here.running, hend, Or.inr ⟨q, rfl, E, ce, locs, hx _ hT (X'.ends _).1.alike, hcell9, hv, hcl, (X'.ends _).1, (X'.ends _).2.mono hc hs, hf⟩⟩
  rw [X.pushThrowing_eq]
  exact st
/-- a thing of a world lies in the heap -/
theorem vx_lt {D : va_G} {cl : List vw_C} {ws : va_W} {H1 : Heap} (h : va_P D cl ws H1) {k : Nat} {q : Nat × va_E} (hk : ws[k]? = some q) : q.1 < H1.size := (h k q hk).lt
end VXS
/-! ===== END ===== -/
/-! ===== BEGIN methods with a table of their own: called by a name, returning or throwing ===== -/
section VXH
/-! vx_backW, vx_callVX, vx_callSX, vx_callVW, vx_runVW, vx_runVX, vx_runSX, vx_ofWH follow the same proofs as their sisters above (Free/Laws.lean, Shelf42/LK1.lean); vx_outP calls Shelf42/NT130.lean (outThrough). -/
section
variable {l : Launch} {R : Room} {p : Program} {e : Env} {below : List Frame} {s : State} {sargs : Array Value} {y : MethodName} {len W9 : Nat}
theorem vx_backW {ws : List Cond} {rm : Room} {Pc : Array Value → State → Prop} {Qc : Array Value → State → Outcome → State → Prop} {XC : String → State → State → Prop} {mc ms : Nat} {free : Addr → Prop} {bytes : ByteArray} {maxL : Nat} {ret : Option FieldType} {hh : List (Nat × Nat × Nat × Nat)}
    (hM : vx_Met l y ws rm Pc Qc XC mc ms free) (hblind : FrameBlind Pc) (hrc : rm.cells = mc) (hrs : rm.slots = ms)
    (hframes : rm.frames + 1 ≤ R.frames) (hlocals : W9 + (maxL + 11) + rm.locals ≤ R.locals)
    (hws : ∀ w ∈ ws, ∀ a' U, s.WarmedH U.vm → w.before a' U = true) (hcode : Cond.codeWith y bytes maxL ret hh ∈ ws) (hinit : ∀ a' U, s.WarmedH U.vm → (Cond.initialized y.cls).before a' U = true) :
    vx_Back l R p e below s sargs y len W9 (PreOf R mc ms Pc) (PostOf Qc mc ms free) (vx_Post XC mc ms free) := by
  intro m meth c A g ig mk a X hg hsize hdg hW hn hp
  have h1 : (headSpec ws rm).pre.before a A.U = true := atoms_intro fun w hw => hws w hw _ _ X.warmed
  have h2 : (Cond.codeWith y bytes maxL ret hh).before a A.U = true := hws _ hcode _ _ X.warmed
  have h3 : (Cond.initialized y.cls).before a A.U = true := hinit _ _ X.warmed
  have h4 : A.cells + (headSpec ws rm).room.cells ≤ R.cells := by rw [show (headSpec ws rm).room.cells = mc from hrc]; exact hp.1
  have h5 : A.slots + (headSpec ws rm).room.slots ≤ R.slots := by rw [show (headSpec ws rm).room.slots = ms from hrs]; exact hp.2.1
  have hPc : Pc a (A.U.calling g mk a) := hblind _ _ _ _ hp.2.2
  obtain ⟨U, Ls, c0, s0⟩ := A
  dsimp only [Pt.U, Pt.locs, Pt.cells, Pt.slots] at h1 h2 h3 h4 h5 X hn hPc ⊢
  obtain ⟨m9, methY, cY, hn9, hmY, hcY, -, hlY, -⟩ := Cond.codeWith_spec h2
  cases Option.some.inj (hn9.symm.trans hn)
  obtain ⟨kY, hkY, -⟩ := className_of_methodNamed hn
  have hinitY : kY.init = .initialized := Cond.initialized_spec (findClass_of_methodNamed hn) hkY h3
  have h : At U g.method c below := by rw [hg]; exact X.here
  have hlocals9 : W9 + (maxL + 11) + (headSpec ws rm).room.locals ≤ R.locals := hlocals
  have happ : (headSpec ws rm).appliesLoose y e.platform (U.calling g mk a) = true :=
    Spec.appliesLoose_calling (g := g) h hdg hn hkY hinitY
      (X.room_calling (g := g) (R' := (headSpec ws rm).room) hsize hmY hcY hframes (by rw [hlY]; omega) h4 h5) h1
  obtain ⟨mid, hmid⟩ := h.above
  have hfr : (U.setTop g).frames = (.java g :: mid) ++ below := by rw [State.frames_setTop' g h.top, hmid]; rfl
  obtain ⟨o, s₂, hsteps, -, hend, hq⟩ := Steps.callFree hM p X.admits X.cas X.clock (acts := []) hfr happ hPc trivial
  have hq' : vx_Q Qc XC mc ms free a (U.calling g mk a) o s₂ := hq
  rw [State.frames_setTop' g h.top] at hend
  obtain ⟨g₀, hg0⟩ := Option.isSome_iff_exists.mp h.top
  obtain ⟨r, hr⟩ := State.topJava?_eq_some.mp hg0
  have hr' : (({ U with heap := s₂.heap, slotsUsed := s₂.slotsUsed } : State).setVm s₂.vm).frames = .java g₀ :: r := hr
  rcases hq' with ⟨hqc, L, hfe, hL⟩ | ⟨q, rfl, E, ce, L, hx, hce, hcv, hcl, hW₂, hsm, hL⟩
  · obtain ⟨⟨v, rfl⟩, hW₂, e2, q2, q3, q4, q5, q6⟩ := id hfe
    have e3 : s₂ = ({ (U.calling g mk a).setFrames s₂.frames with heap := s₂.heap, slotsUsed := s₂.slotsUsed } : State).setVm s₂.vm := by
      have : s₂ = ({ s₂ with vm := (U.calling g mk a).vm } : State).setVm s₂.vm := rfl
      rw [e2] at this
      exact this
    obtain ⟨c₂, i₂, len₂, hc₂, hd₂, hf₂⟩ := hend
    have hW' : U.WarmedH s₂.vm := hW₂
    have hcc : c₂ = c := by
      have h1 : s₂.code? g.method = U.code? g.method := by
        rw [State.code?_eq, State.code?_eq, hW'.alike.method?]
      exact Option.some.inj (hc₂.symm.trans (h1.trans h.code))
    subst hcc
    have hlen : len₂ = len := by rw [hdg] at hd₂; cases hd₂; rfl
    subst hlen
    have hs₂ : s₂ = (({ U with heap := s₂.heap, slotsUsed := s₂.slotsUsed } : State).setVm s₂.vm).setTop { g with pc := g.pc + len₂, stack := v.toList ++ g.stack } := by
      refine e3.trans ?_
      rw [hf₂, State.calling_eq h.top, State.setFrames_setFrames, State.setTop_of_frames _ hr', hr]
      rfl
    have hsame : U.sameButNew ({ U with heap := s₂.heap, slotsUsed := s₂.slotsUsed } : State) L mc ms := by
      refine ⟨?_, q2, q3, q4, q5, q6⟩
      obtain ⟨t, ht, -⟩ := State.frames_cons hr
      show ({ U with heap := s₂.heap, slotsUsed := s₂.slotsUsed } : State) = { U.setFrames U.frames with heap := s₂.heap, slotsUsed := s₂.slotsUsed }
      rw [State.setFrames_self ht]
    subst hg
    refine Or.inl ⟨v, ⟨(({ U with heap := s₂.heap, slotsUsed := s₂.slotsUsed } : State).setVm s₂.vm), Ls ++ L, c0 + mc, s0 + ms⟩,
      ⟨X.admits, X.cas, X.clock, X.frames, X.room, X.hears, X.method, X.code, (X.here.setHeapUsed s₂.heap s₂.slotsUsed).setVm hW'.alike, X.tail, State.WarmedH.trans X.warmed hW', X.limits, X.bytes, X.same.trans (hsame.setVm s.vm)⟩,
      ⟨g, mk, s₂, L, rfl, rfl, hqc, rfl, hL, rfl, rfl⟩, ?_⟩
    show Steps p.tables e below _ ((({ U with heap := s₂.heap, slotsUsed := s₂.slotsUsed } : State).setVm s₂.vm).setTop { g with pc := g.pc + len₂, stack := v.toList ++ g.stack })
    rw [← hs₂]
    exact hsteps
  · obtain ⟨e2, q2, q3, q4, q5, q6⟩ := id hsm
    have e3 : s₂ = ({ (U.calling g mk a).setFrames s₂.frames with heap := s₂.heap, slotsUsed := s₂.slotsUsed } : State).setVm s₂.vm := by
      have : s₂ = ({ s₂ with vm := (U.calling g mk a).vm } : State).setVm s₂.vm := rfl
      rw [e2] at this
      exact this
    have hf₂ : s₂.frames = .throwing q :: .java g :: U.frames.tail := hend
    have hW' : U.WarmedH s₂.vm := hW₂
    have hs₂ : s₂ = ((({ U with heap := s₂.heap, slotsUsed := s₂.slotsUsed } : State).setVm s₂.vm).setTop g).pushFrame (.throwing q) := by
      refine e3.trans ?_
      rw [hf₂, State.calling_eq h.top, State.setFrames_setFrames, State.pushFrame, State.frames_setTop _ hr', State.setTop_of_frames _ hr', State.setFrames_setFrames, hr]
      rfl
    have hsame : U.sameButNew ({ U with heap := s₂.heap, slotsUsed := s₂.slotsUsed } : State) L mc ms := by
      refine ⟨?_, q2, q3, q4, q5, q6⟩
      obtain ⟨t, ht, -⟩ := State.frames_cons hr
      show ({ U with heap := s₂.heap, slotsUsed := s₂.slotsUsed } : State) = { U.setFrames U.frames with heap := s₂.heap, slotsUsed := s₂.slotsUsed }
      rw [State.setFrames_self ht]
    subst hg
    refine Or.inr ⟨q, ⟨(({ U with heap := s₂.heap, slotsUsed := s₂.slotsUsed } : State).setVm s₂.vm), Ls ++ L, c0 + mc, s0 + ms⟩,
      ⟨X.admits, X.cas, X.clock, X.frames, X.room, X.hears, X.method, X.code, (X.here.setHeapUsed s₂.heap s₂.slotsUsed).setVm hW'.alike, X.tail, State.WarmedH.trans X.warmed hW', X.limits, X.bytes, X.same.trans (hsame.setVm s.vm)⟩,
      ⟨g, mk, s₂, L, E, ce, rfl, rfl, hx, hce, hcv, hcl, rfl, hL, rfl, rfl⟩, ?_⟩
    show Steps p.tables e below _ (((({ U with heap := s₂.heap, slotsUsed := s₂.slotsUsed } : State).setVm s₂.vm).setTop g).pushFrame (.throwing q))
    rw [← hs₂]
    exact hsteps
end
variable {p : Program} {l : Launch} {e : Env} {R : Room} {s : State} {m : MethodId} {args : Array Value} {below : List Frame} {meth : Method} {c : Code} {T : State} {H : Heap} {locs : List Loc} {cells slots : Nat}
theorem vx_callVX (X : Stand p l e R s m args below meth c T locs cells slots) (hexec : p.tables.exec = Jvm.exec) {own C : String} {index : Nat} {y : MethodName} {bytes : ByteArray} {maxL : Nat} {ret : Option FieldType} {hh : List (Nat × Nat × Nat × Nat)}
    (hown : s.vm.findClass own = some m.cls) (hlink : (Cond.methodLink own index y).before args s = true) (hinst : (Cond.instanceMethod y).before args s = true) (hsel : (Cond.selects C y y).before args s = true)
    (hcode : (Cond.codeWith y bytes maxL ret hh).before args s = true) (hy : y.cls ≠ "java/lang/invoke/MethodHandle" ∧ y.cls ≠ "java/lang/invoke/VarHandle")
    {W9 : Nat} {Pre : Pt → Array Value → Prop} {Post : Pt → Array Value → Option Value → Pt → Prop} {PostX : Pt → Array Value → Addr → Pt → Prop} (hK : vx_Back l R p e below s args y 3 W9 Pre Post PostX)
    {b : Addr} {cellB : Cell} (hcell : T.heap[b]? = some cellB) (hobj : cellB.vm.isStatics = false) (hcls : s.vm.findClass C = some cellB.cls)
    {g : JFrame} (hg : g.method = m) (hsize : g.locals.size = c.maxLocals) {argsL rest : List Value} (hlen : ∀ sig, parseMethodDescriptor y.desc = some sig → argsL.length = sig.parameters.length)
    (hstack : g.stack = argsL.reverse ++ .ref b :: rest) (hW : 2 * g.monitorRoom + (rest.map fun v => v.category).sum ≤ W9) (hdg : decode c.code g.pc = .ok (.invokevirtual index, 3))
    (hpre : ∀ vm₁, s.WarmedH vm₁ → Pre ⟨T.setVm vm₁, locs, cells, slots⟩ (Value.ref b :: argsL).toArray) :
    (∃ (v : Option Value) (vm₁ : Vm) (B : Pt), s.WarmedH vm₁ ∧ Stand p l e R s m args below meth c B.U B.locs B.cells B.slots ∧ Post ⟨T.setVm vm₁, locs, cells, slots⟩ (Value.ref b :: argsL).toArray v B ∧
      ∀ target, Steps p.tables e below (B.U.setTop { g with pc := g.pc + 3, stack := v.toList ++ rest }) target → Steps p.tables e below (T.setTop g) target) ∨
    (∃ (q : Addr) (vm₁ : Vm) (B : Pt), s.WarmedH vm₁ ∧ Stand p l e R s m args below meth c B.U B.locs B.cells B.slots ∧ PostX ⟨T.setVm vm₁, locs, cells, slots⟩ (Value.ref b :: argsL).toArray q B ∧
      Steps p.tables e below (T.setTop g) ((B.U.setTop { g with stack := rest }).pushFrame (.throwing q))) := by
  obtain ⟨mk, methM, hnamed, hmethM, hstM, habM⟩ := Cond.instanceMethod_spec hinst
  obtain ⟨m8, methM', cM, hn8, hmethM', -, -, -, -, -, -, hsigM⟩ := Cond.codeWith_spec hcode
  cases Option.some.inj (hn8.symm.trans hnamed)
  cases hmethM.symm.trans hmethM'
  obtain ⟨c2, r2, m2, q1, q2, q3, q4, kP, hkP, hkPi⟩ := Cond.selects_spec hsel
  cases hcls.symm.trans q1
  cases (State.methodFound?_of_named hnamed hy).symm.trans q2
  cases hnamed.symm.trans q3
  have hselP : selectMethod e.platform s.vm cellB.cls mk = .method mk := by rw [Launch.admits_selectMethod X.admits]; exact q4
  obtain ⟨vm₁, X₁, hstep₁⟩ := X.invokevirtual hexec hown hlink hnamed hmethM hstM hkP hkPi hy (a := b) (cell := cellB) hcell
    (fun z h => by rw [h] at hobj; cases hobj) hselP hmethM habM hkP hkPi (g := g) hg (argsL := argsL) (rest := rest) (hlen _ hsigM) hstack hdg
  rcases hK m meth c ⟨T.setVm vm₁, locs, cells, slots⟩ { g with stack := rest } (.invokevirtual index) mk (Value.ref b :: argsL).toArray X₁ hg hsize hdg hW (X₁.named hnamed) (hpre vm₁ X₁.warmed) with ⟨v, B, X', hpost, hsteps⟩ | ⟨q, B, X', hpost, hsteps⟩
  · exact Or.inl ⟨v, vm₁, B, X₁.warmed, X', hpost, fun target h => hstep₁ _ fun acts => by rw [doInvoke_state]; exact hsteps.trans h⟩
  · exact Or.inr ⟨q, vm₁, B, X₁.warmed, X', hpost, hstep₁ _ fun acts => by rw [doInvoke_state]; exact hsteps⟩
theorem vx_callSX (X : Stand p l e R s m args below meth c T locs cells slots) (hexec : p.tables.exec = Jvm.exec) {own : String} {index : Nat} {y : MethodName} {bytes : ByteArray} {maxL : Nat} {ret : Option FieldType} {hh : List (Nat × Nat × Nat × Nat)}
    (hown : s.vm.findClass own = some m.cls) (hlink : (Cond.methodLink own index y).before args s = true) (hstat : (Cond.static y).before args s = true) (hinit : (Cond.initialized y.cls).before args s = true)
    (hcode : (Cond.codeWith y bytes maxL ret hh).before args s = true) (hy : y.cls ≠ "java/lang/invoke/MethodHandle" ∧ y.cls ≠ "java/lang/invoke/VarHandle")
    {W9 : Nat} {Pre : Pt → Array Value → Prop} {Post : Pt → Array Value → Option Value → Pt → Prop} {PostX : Pt → Array Value → Addr → Pt → Prop} (hK : vx_Back l R p e below s args y 3 W9 Pre Post PostX)
    {g : JFrame} (hg : g.method = m) (hsize : g.locals.size = c.maxLocals) {argsL rest : List Value} (hlen : ∀ sig, parseMethodDescriptor y.desc = some sig → argsL.length = sig.parameters.length)
    (hstack : g.stack = argsL.reverse ++ rest) (hW : 2 * g.monitorRoom + (rest.map fun v => v.category).sum ≤ W9) (hdg : decode c.code g.pc = .ok (.invokestatic index, 3))
    (hpre : ∀ vm₁, s.WarmedH vm₁ → Pre ⟨T.setVm vm₁, locs, cells, slots⟩ argsL.toArray) :
    (∃ (v : Option Value) (vm₁ : Vm) (B : Pt), s.WarmedH vm₁ ∧ Stand p l e R s m args below meth c B.U B.locs B.cells B.slots ∧ Post ⟨T.setVm vm₁, locs, cells, slots⟩ argsL.toArray v B ∧
      ∀ target, Steps p.tables e below (B.U.setTop { g with pc := g.pc + 3, stack := v.toList ++ rest }) target → Steps p.tables e below (T.setTop g) target) ∨
    (∃ (q : Addr) (vm₁ : Vm) (B : Pt), s.WarmedH vm₁ ∧ Stand p l e R s m args below meth c B.U B.locs B.cells B.slots ∧ PostX ⟨T.setVm vm₁, locs, cells, slots⟩ argsL.toArray q B ∧
      Steps p.tables e below (T.setTop g) ((B.U.setTop { g with stack := rest }).pushFrame (.throwing q))) := by
  obtain ⟨mk, methM, cM, hnamed, hmethM, -, -, -, -, -, -, hsigM⟩ := Cond.codeWith_spec hcode
  have hstatic : methM.isStatic = true := Cond.static_spec hnamed hmethM hstat
  obtain ⟨kP, hkP, -⟩ := className_of_methodNamed hnamed
  have hinitP : kP.init = .initialized := Cond.initialized_spec (findClass_of_methodNamed hnamed) hkP hinit
  obtain ⟨vm₁, X₁, hstep₁⟩ := X.invokestatic hexec hown hlink hnamed hmethM hstatic hkP hinitP hy (g := g) hg (argsL := argsL) (rest := rest) (hlen _ hsigM) hstack hdg
  rcases hK m meth c ⟨T.setVm vm₁, locs, cells, slots⟩ { g with stack := rest } (.invokestatic index) mk argsL.toArray X₁ hg hsize hdg hW (X₁.named hnamed) (hpre vm₁ X₁.warmed) with ⟨v, B, X', hpost, hsteps⟩ | ⟨q, B, X', hpost, hsteps⟩
  · exact Or.inl ⟨v, vm₁, B, X₁.warmed, X', hpost, fun target h => hstep₁ _ fun acts => by rw [doInvoke_state]; exact hsteps.trans h⟩
  · exact Or.inr ⟨q, vm₁, B, X₁.warmed, X', hpost, hstep₁ _ fun acts => by rw [doInvoke_state]; exact hsteps⟩
theorem vx_callVW (X : Stand p l e R s m args below meth c T locs cells slots) (hexec : p.tables.exec = Jvm.exec) {own C : String} {index : Nat} {y : MethodName} {bytes : ByteArray} {maxL : Nat} {ret : Option FieldType} {hh : List (Nat × Nat × Nat × Nat)}
    (hown : s.vm.findClass own = some m.cls) (hlink : (Cond.methodLink own index y).before args s = true) (hinst : (Cond.instanceMethod y).before args s = true) (hsel : (Cond.selects C y y).before args s = true)
    (hcode : (Cond.codeWith y bytes maxL ret hh).before args s = true) (hy : y.cls ≠ "java/lang/invoke/MethodHandle" ∧ y.cls ≠ "java/lang/invoke/VarHandle")
    {W9 : Nat} {Pre : Pt → Array Value → Prop} {Post : Pt → Array Value → Option Value → Pt → Prop} (hK : Back l R p e below s args y 3 W9 Pre Post)
    {b : Addr} {cellB : Cell} (hcell : T.heap[b]? = some cellB) (hobj : cellB.vm.isStatics = false) (hcls : s.vm.findClass C = some cellB.cls)
    {g : JFrame} (hg : g.method = m) (hsize : g.locals.size = c.maxLocals) {argsL rest : List Value} (hlen : ∀ sig, parseMethodDescriptor y.desc = some sig → argsL.length = sig.parameters.length)
    (hstack : g.stack = argsL.reverse ++ .ref b :: rest) (hW : 2 * g.monitorRoom + (rest.map fun v => v.category).sum ≤ W9) (hdg : decode c.code g.pc = .ok (.invokevirtual index, 3))
    (hpre : ∀ vm₁, s.WarmedH vm₁ → Pre ⟨T.setVm vm₁, locs, cells, slots⟩ (Value.ref b :: argsL).toArray) :
    ∃ (v : Option Value) (vm₁ : Vm) (B : Pt), s.WarmedH vm₁ ∧ Stand p l e R s m args below meth c B.U B.locs B.cells B.slots ∧ Post ⟨T.setVm vm₁, locs, cells, slots⟩ (Value.ref b :: argsL).toArray v B ∧
      ∀ target, Steps p.tables e below (B.U.setTop { g with pc := g.pc + 3, stack := v.toList ++ rest }) target → Steps p.tables e below (T.setTop g) target := by
  obtain ⟨mk, methM, hnamed, hmethM, hstM, habM⟩ := Cond.instanceMethod_spec hinst
  obtain ⟨m8, methM', cM, hn8, hmethM', -, -, -, -, -, -, hsigM⟩ := Cond.codeWith_spec hcode
  cases Option.some.inj (hn8.symm.trans hnamed)
  cases hmethM.symm.trans hmethM'
  obtain ⟨c2, r2, m2, q1, q2, q3, q4, kP, hkP, hkPi⟩ := Cond.selects_spec hsel
  cases hcls.symm.trans q1
  cases (State.methodFound?_of_named hnamed hy).symm.trans q2
  cases hnamed.symm.trans q3
  have hselP : selectMethod e.platform s.vm cellB.cls mk = .method mk := by rw [Launch.admits_selectMethod X.admits]; exact q4
  obtain ⟨vm₁, X₁, hstep₁⟩ := X.invokevirtual hexec hown hlink hnamed hmethM hstM hkP hkPi hy (a := b) (cell := cellB) hcell
    (fun z h => by rw [h] at hobj; cases hobj) hselP hmethM habM hkP hkPi (g := g) hg (argsL := argsL) (rest := rest) (hlen _ hsigM) hstack hdg
  obtain ⟨v, B, X', hpost, hsteps⟩ := hK m meth c ⟨T.setVm vm₁, locs, cells, slots⟩ { g with stack := rest } (.invokevirtual index) mk (Value.ref b :: argsL).toArray X₁ hg hsize hdg hW (X₁.named hnamed) (hpre vm₁ X₁.warmed)
  exact ⟨v, vm₁, B, X₁.warmed, X', hpost, fun target h => hstep₁ _ fun acts => by rw [doInvoke_state]; exact hsteps.trans h⟩
abbrev vx_CVW (R : Room) (s : State) (args : Array Value) (own C : String) (index : Nat) (y : MethodName) (bytes : ByteArray) (maxL : Nat) (ret : Option FieldType) (hh : List (Nat × Nat × Nat × Nat)) (ws : List Cond) (rm : Room) (mc ms n : Nat) : Prop :=
  (rm.cells = mc ∧ rm.slots = ms ∧ rm.frames + 1 ≤ R.frames ∧ 8 + (maxL + 11) + rm.locals ≤ R.locals ∧ (∀ w ∈ ws, ∀ (a' : Array Value) (U : State), s.WarmedH U.vm → w.before a' U = true) ∧ Cond.codeWith y bytes maxL ret hh ∈ ws) ∧
  (Cond.codeWith y bytes maxL ret hh).before args s = true ∧ (Cond.initialized y.cls).before args s = true ∧ (y.cls ≠ "java/lang/invoke/MethodHandle" ∧ y.cls ≠ "java/lang/invoke/VarHandle") ∧
  (∀ sig, parseMethodDescriptor y.desc = some sig → n = sig.parameters.length) ∧ (Cond.methodLink own index y).before args s = true ∧ (Cond.instanceMethod y).before args s = true ∧ (Cond.selects C y y).before args s = true
theorem vx_cwVW {own C : String} {index maxL mc ms : Nat} {y : MethodName} {bytes : ByteArray} {ret : Option FieldType} {hh : List (Nat × Nat × Nat × Nat)} {Ts ws ws' : List Cond} {rm : Room} (n : Nat) (ht : ∀ w ∈ Ts, w.before args s = true) (hT : GoodIn Ts (wsV own index C y ws)) (hw : ws = Cond.codeWith y bytes maxL ret hh :: ws') (hrc : rm.cells = mc) (hrs : rm.slots = ms)
    (hd : y.cls = C ∧ y.cls ≠ "java/lang/invoke/MethodHandle" ∧ y.cls ≠ "java/lang/invoke/VarHandle" ∧ (parseMethodDescriptor y.desc).map (fun d => d.parameters.length) = some n) (hR : rm.frames + 1 ≤ R.frames ∧ 8 + (maxL + 11) + rm.locals ≤ R.locals) :
    vx_CVW R s args own C index y bytes maxL ret hh ws rm mc ms n := by
  obtain ⟨hC, hd⟩ := hd
  subst hC
  have ok : ∀ w ∈ wsV own index y.cls y ws, w.before args s = true := fun w h => ht w (hT w h).1
  have hG : GoodIn Ts ws := fun w h => hT w (by unfold wsV; exact List.mem_append_right _ h)
  have hc : Cond.codeWith y bytes maxL ret hh ∈ ws := by rw [hw]; exact List.mem_cons_self
  refine ⟨⟨hrc, hrs, hR.1, hR.2, pay_in ht hG, hc⟩, ht _ (hG _ hc).1, ok _ (by simp [wsV]), ⟨hd.1, hd.2.1⟩, fun sig h => ?_, ok _ (by simp [wsV]), ok _ (by simp [wsV]), ok _ (by simp [wsV])⟩
  have h2 := hd.2.2
  rw [h] at h2
  exact (Option.some.inj h2).symm
theorem vx_runVW {y : MethodName} {bytes cc : ByteArray} {maxL nL mc ms n index : Nat} {ret : Option FieldType} {hh : List (Nat × Nat × Nat × Nat)} {ws : List Cond} {rm : Room} {Pc : Array Value → State → Prop} {Qc : Array Value → State → Outcome → State → Prop} {free : Addr → Prop} {Ts : List Cond} {own C : String} {b : Addr} {As rest : List Value} {g : JFrame}
    (S : CallFix p m c cc nL s args Ts own) (hM : Met l y ws rm Pc Qc mc ms free) (cw : vx_CVW R s args own C index y bytes maxL ret hh ws rm mc ms n) (hp : PreV s H C b Pc As)
    (hg : g.method = m) (hn : As.length = n) (hsize : g.locals.size = nL) (hstack : g.stack = As.reverse ++ .ref b :: rest) (hW : 2 * g.monitorRoom + (rest.map fun v => v.category).sum ≤ 8) (hdg : decode cc g.pc = .ok (.invokevirtual index, 3)) (hf : cells + mc ≤ R.cells ∧ slots + ms ≤ R.slots) :
    va_Run p l e R s m args below meth c H locs cells slots mc ms g rest (Qc (Value.ref b :: As).toArray) free := by
  obtain ⟨⟨hrc, hrs, hfr, hlo, hws, hcw⟩, hcode, hini, hy, hlen, hl, hin, hse⟩ := cw
  have hK : Back l R p e below s args y 3 8 (PreOf R mc ms Pc) (PostOf Qc mc ms free) := va_backW (hh := hh) (bytes := bytes) (maxL := maxL) (ret := ret) hM hp.1 hrc hrs hfr hlo hws hcw (fun a' U hW => word_at hW (Or.inl (by first | rfl | simp [Cond.onTables, Cond.keeps, Cond.steady])) hini)
  obtain ⟨hx, hb, hml, ho, -⟩ := S
  obtain ⟨-, ⟨cellB, hcB, hoB, hclB⟩, hPc⟩ := hp
  intro T hT X
  obtain ⟨v, vm₁, ⟨U', l2, c2, s2⟩, hW₁, X', ⟨g', mk, t, L, e1, e2, hq, h1, hL, h2, h3⟩, st⟩ := vx_callVW X hx (C := C) (hh := hh) (bytes := bytes) (maxL := maxL) (ret := ret) ho hl hin hse hcode hy hK (by rw [hT]; exact hcB) hoB hclB hg (hsize.trans hml.symm) (argsL := As) (rest := rest) (fun sig h => hn.trans (hlen sig h)) hstack hW (by rw [hb]; exact hdg)
    (fun vm₁ hW₁ => ⟨hf.1, hf.2, hPc (T.setVm vm₁) hT hW₁⟩)
  dsimp only [Pt.U, Pt.locs, Pt.cells, Pt.slots] at X' e1 e2 h1 h2 h3 st
  subst h1; subst h2; subst h3
  exact ⟨v, (T.setVm vm₁).calling g' mk (Value.ref b :: As).toArray, t, U', L, hT, X', hL, e1, e2, hq, st⟩
section
variable {y : MethodName} {bytes cc : ByteArray} {maxL nL mc ms n index : Nat} {ret : Option FieldType} {ws : List Cond} {rm : Room} {Pc : Array Value → State → Prop} {Qc : Array Value → State → Outcome → State → Prop} {XC : String → State → State → Prop} {free : Addr → Prop} {Ts : List Cond} {own C : String} {b : Addr} {As rest : List Value} {g : JFrame}
theorem vx_runVX {hh : List (Nat × Nat × Nat × Nat)} (S : CallFix p m c cc nL s args Ts own) (hM : vx_Met l y ws rm Pc Qc XC mc ms free) (cw : vx_CVW R s args own C index y bytes maxL ret hh ws rm mc ms n) (hp : PreV s H C b Pc As)
    (hg : g.method = m) (hn : As.length = n) (hsize : g.locals.size = nL) (hstack : g.stack = As.reverse ++ .ref b :: rest) (hW : 2 * g.monitorRoom + (rest.map fun v => v.category).sum ≤ 8) (hdg : decode cc g.pc = .ok (.invokevirtual index, 3)) (hf : cells + mc ≤ R.cells ∧ slots + ms ≤ R.slots) :
    vx_Run p l e R s m args below meth c H locs cells slots mc ms g rest (Qc (Value.ref b :: As).toArray) XC free := by
  obtain ⟨⟨hrc, hrs, hfr, hlo, hws, hcw⟩, hcode, hini, hy, hlen, hl, hin, hse⟩ := cw
  have hK : vx_Back l R p e below s args y 3 8 (PreOf R mc ms Pc) (PostOf Qc mc ms free) (vx_Post XC mc ms free) := vx_backW (hh := hh) (bytes := bytes) (maxL := maxL) (ret := ret) hM hp.1 hrc hrs hfr hlo hws hcw (fun a' U hW => word_at hW (Or.inl (by first | rfl | simp [Cond.onTables, Cond.keeps, Cond.steady])) hini)
  obtain ⟨hx, hb, hml, ho, -⟩ := S
  obtain ⟨-, ⟨cellB, hcB, hoB, hclB⟩, hPc⟩ := hp
  intro T hT X
  rcases vx_callVX X hx (C := C) (hh := hh) (bytes := bytes) (maxL := maxL) (ret := ret) ho hl hin hse hcode hy hK (by rw [hT]; exact hcB) hoB hclB hg (hsize.trans hml.symm) (argsL := As) (rest := rest) (fun sig h => hn.trans (hlen sig h)) hstack hW (by rw [hb]; exact hdg)
    (fun vm₁ hW₁ => ⟨hf.1, hf.2, hPc (T.setVm vm₁) hT hW₁⟩) with ⟨v, vm₁, ⟨U', l2, c2, s2⟩, hW₁, X', ⟨g', mk, t, L, e1, e2, hq, h1, hL, h2, h3⟩, st⟩ | ⟨q, vm₁, ⟨U', l2, c2, s2⟩, hW₁, X', ⟨g', mk, t, L, E, ce, e1, e2, hq, hce, hcv, hcl, h1, hL, h2, h3⟩, st⟩
  · dsimp only [Pt.U, Pt.locs, Pt.cells, Pt.slots] at X' e1 e2 h1 h2 h3 st
    subst h1; subst h2; subst h3
    exact Or.inl ⟨v, (T.setVm vm₁).calling g' mk (Value.ref b :: As).toArray, t, U', L, hT, X', hL, e1, e2, hq, st⟩
  · dsimp only [Pt.U, Pt.locs, Pt.cells, Pt.slots] at X' e1 e2 h1 h2 h3 st hcl
    subst h1; subst h2; subst h3
    exact Or.inr ⟨q, (T.setVm vm₁).calling g' mk (Value.ref b :: As).toArray, t, U', L, E, ce, hT, X', hL, e1, e2, hq, hce, hcv, vx_cls hW₁ hcl, st⟩
theorem vx_runSX {hh : List (Nat × Nat × Nat × Nat)} (S : CallFix p m c cc nL s args Ts own) (hM : vx_Met l y ws rm Pc Qc XC mc ms free) (cw : vx_CSW R s args own index y bytes maxL ret hh ws rm mc ms n) (hp : PreS s H Pc As)
    (hg : g.method = m) (hn : As.length = n) (hsize : g.locals.size = nL) (hstack : g.stack = As.reverse ++ rest) (hW : 2 * g.monitorRoom + (rest.map fun v => v.category).sum ≤ 8) (hdg : decode cc g.pc = .ok (.invokestatic index, 3)) (hf : cells + mc ≤ R.cells ∧ slots + ms ≤ R.slots) :
    vx_Run p l e R s m args below meth c H locs cells slots mc ms g rest (Qc As.toArray) XC free := by
  obtain ⟨⟨hrc, hrs, hfr, hlo, hws, hcw⟩, hcode, hini, hy, hlen, hl, hstt⟩ := cw
  have hK : vx_Back l R p e below s args y 3 8 (PreOf R mc ms Pc) (PostOf Qc mc ms free) (vx_Post XC mc ms free) := vx_backW (hh := hh) (bytes := bytes) (maxL := maxL) (ret := ret) hM hp.1 hrc hrs hfr hlo hws hcw (fun a' U hW => word_at hW (Or.inl (by first | rfl | simp [Cond.onTables, Cond.keeps, Cond.steady])) hini)
  obtain ⟨hx, hb, hml, ho, -⟩ := S
  intro T hT X
  rcases vx_callSX X hx (hh := hh) (bytes := bytes) (maxL := maxL) (ret := ret) ho hl hstt hini hcode hy hK hg (hsize.trans hml.symm) (argsL := As) (rest := rest) (fun sig h => hn.trans (hlen sig h)) hstack hW (by rw [hb]; exact hdg)
    (fun vm₁ hW₁ => ⟨hf.1, hf.2, hp.2 (T.setVm vm₁) hT hW₁⟩) with ⟨v, vm₁, ⟨U', l2, c2, s2⟩, hW₁, X', ⟨g', mk, t, L, e1, e2, hq, h1, hL, h2, h3⟩, st⟩ | ⟨q, vm₁, ⟨U', l2, c2, s2⟩, hW₁, X', ⟨g', mk, t, L, E, ce, e1, e2, hq, hce, hcv, hcl, h1, hL, h2, h3⟩, st⟩
  · dsimp only [Pt.U, Pt.locs, Pt.cells, Pt.slots] at X' e1 e2 h1 h2 h3 st
    subst h1; subst h2; subst h3
    exact Or.inl ⟨v, (T.setVm vm₁).calling g' mk As.toArray, t, U', L, hT, X', hL, e1, e2, hq, st⟩
  · dsimp only [Pt.U, Pt.locs, Pt.cells, Pt.slots] at X' e1 e2 h1 h2 h3 st hcl
    subst h1; subst h2; subst h3
    exact Or.inr ⟨q, (T.setVm vm₁).calling g' mk As.toArray, t, U', L, E, ce, hT, X', hL, e1, e2, hq, hce, hcv, vx_cls hW₁ hcl, st⟩
end
end VXH
theorem vx_ofWH {l : Launch} {y : MethodName} {ws ws' : List Cond} {rm : Room} {Pc : Array Value → State → Prop} {Qc : Array Value → State → Outcome → State → Prop} {XC : String → State → State → Prop} {mc ms : Nat} {free : Addr → Prop} {cc : ByteArray} {maxL : Nat} {ret : Option FieldType} {hh : List (Nat × Nat × Nat × Nat)}
    (hy : plainName y.cls = true) (hw : ws = Cond.codeWith y cc maxL ret hh :: ws')
    (body : ∀ p e s m args below meth c s₁, BodyLoose p l y (headSpec ws rm) cc maxL ret e s m args below meth c s₁ → c.maxLocals = maxL → Pc args s →
      W p l e (headSpec ws rm).room s m args below meth c s.heap [] 0 0 (vx_MQ below Qc XC args s mc ms free) (entryFrame m args maxL)) : vx_Met l y ws rm Pc Qc XC mc ms free := by
  refine MetFree.of_bodyS (code := cc) (maxLocals := maxL) (ret := ret) hy ?_ ?_
  · intro args s m h hn
    obtain ⟨m9, meth, c, hn9, h1, h2, h3, h4, -, h5, h6, -⟩ := Cond.codeWith_spec (atoms_spec (ws := ws) h _ (by rw [hw]; exact List.mem_cons_self))
    cases hn.symm.trans hn9
    exact ⟨meth, c, h1, h2, h3, h4, h5, h6⟩
  · intro p e s m args below meth c s₁ B hml hP _
    have hh0 : s₁.heap = s.heap := by rw [B.state]; rfl
    obtain ⟨t, a1, o, b1, b2, b3⟩ := body p e s m args below meth c s₁ B hml hP s₁ hh0 (Stand.of_body B)
    exact ⟨t, o, a1, b1, b2, b3⟩
/-! ===== END ===== -/
end
section
def WL : List Cond := lw_tbl.filter goodWord
def R_Ai : String := "CrateCushions$Air"
def R_Fo : String := "CrateCushions$Foams"
def R_Go : String := "CrateCushions$Goods"
def R_Jo : String := "CrateCushions$Journey"
def R_Pk : String := "CrateCushions$Packing"
def R_Sh : String := "CrateCushions$Shocks"
def R_Sk : String := "CrateCushions$Stock"
def R_Cc : String := "CrateCushions"
def R_Mo : String := "CrateCushionsModel"
def R_La : String := "CrateCushionsLaw"
def R_Ma : String := "java/lang/Math"
def R_In : String := "java/lang/Integer"
def F_Ai : u_T := fun k => match k with
  | 0 => ("CrateCushions$Air", "insideAfter", "[I", true)
  | 1 => ("CrateCushions$Air", "hours", "I", false)
  | _ => ("CrateCushions$Air", "lagHours", "I", false)
def t_Ai : Nat → FieldType := fun k => match k with
  | 0 => .array .int
  | 1 => .int
  | _ => .int
theorem n_Ai : ∀ a, a < 3 → ∀ b, b < 3 → a ≠ b → (F_Ai a).2.1 ≠ (F_Ai b).2.1 := by decide +kernel
theorem o_Ai : ∀ k, k < 3 → parseFieldDescriptor (F_Ai k).2.2.1 = some (t_Ai k) := by decide +kernel
theorem i_Ai : ∀ w ∈ u_ws R_Ai F_Ai 3, w ∈ WL := by decide +kernel
def F_Fo : u_T := fun k => match k with
  | 0 => ("CrateCushions$Foams", "rowCount", "[I", true)
  | 1 => ("CrateCushions$Foams", "thicknessOf", "[I", true)
  | 2 => ("CrateCushions$Foams", "pointCount", "[I", true)
  | 3 => ("CrateCushions$Foams", "stressOf", "[I", true)
  | _ => ("CrateCushions$Foams", "valueOf", "[I", true)
def t_Fo : Nat → FieldType := fun k => match k with
  | 0 => .array .int
  | 1 => .array .int
  | 2 => .array .int
  | 3 => .array .int
  | _ => .array .int
theorem n_Fo : ∀ a, a < 5 → ∀ b, b < 5 → a ≠ b → (F_Fo a).2.1 ≠ (F_Fo b).2.1 := by decide +kernel
theorem o_Fo : ∀ k, k < 5 → parseFieldDescriptor (F_Fo k).2.2.1 = some (t_Fo k) := by decide +kernel
theorem i_Fo : ∀ w ∈ u_ws R_Fo F_Fo 5, w ∈ WL := by decide +kernel
def F_Go : u_T := fun k => match k with
  | 0 => ("CrateCushions$Goods", "sizes", "[I", true)
  | 1 => ("CrateCushions$Goods", "grams", "[I", true)
  | 2 => ("CrateCushions$Goods", "weakSides", "[I", true)
  | 3 => ("CrateCushions$Goods", "cratesOfSet", "[I", true)
  | 4 => ("CrateCushions$Goods", "loadOfSet", "[I", true)
  | _ => ("CrateCushions$Goods", "count", "I", false)
def t_Go : Nat → FieldType := fun k => match k with
  | 0 => .array .int
  | 1 => .array .int
  | 2 => .array .int
  | 3 => .array .int
  | 4 => .array .int
  | _ => .int
theorem n_Go : ∀ a, a < 6 → ∀ b, b < 6 → a ≠ b → (F_Go a).2.1 ≠ (F_Go b).2.1 := by decide +kernel
theorem o_Go : ∀ k, k < 6 → parseFieldDescriptor (F_Go k).2.2.1 = some (t_Go k) := by decide +kernel
theorem i_Go : ∀ w ∈ u_ws R_Go F_Go 6, w ∈ WL := by decide +kernel
def F_Jo : u_T := fun k => match k with
  | 0 => ("CrateCushions$Journey", "drops", "[I", true)
  | _ => ("CrateCushions$Journey", "legCount", "I", false)
def t_Jo : Nat → FieldType := fun k => match k with
  | 0 => .array .int
  | _ => .int
theorem n_Jo : ∀ a, a < 2 → ∀ b, b < 2 → a ≠ b → (F_Jo a).2.1 ≠ (F_Jo b).2.1 := by decide +kernel
theorem o_Jo : ∀ k, k < 2 → parseFieldDescriptor (F_Jo k).2.2.1 = some (t_Jo k) := by decide +kernel
theorem i_Jo : ∀ w ∈ u_ws R_Jo F_Jo 2, w ∈ WL := by decide +kernel
def F_Pk : u_T := fun k => match k with
  | 0 => ("CrateCushions$Packing", "sizes", "[I", true)
  | 1 => ("CrateCushions$Packing", "wayOf", "[I", true)
  | 2 => ("CrateCushions$Packing", "startOf", "[I", true)
  | 3 => ("CrateCushions$Packing", "triedWay", "[I", true)
  | 4 => ("CrateCushions$Packing", "packed", "Z", false)
  | 5 => ("CrateCushions$Packing", "members", "I", false)
  | 6 => ("CrateCushions$Packing", "gap", "I", false)
  | _ => ("CrateCushions$Packing", "leastProduct", "J", false)
def t_Pk : Nat → FieldType := fun k => match k with
  | 0 => .array .int
  | 1 => .array .int
  | 2 => .array .int
  | 3 => .array .int
  | 4 => .boolean
  | 5 => .int
  | 6 => .int
  | _ => .long
theorem n_Pk : ∀ a, a < 8 → ∀ b, b < 8 → a ≠ b → (F_Pk a).2.1 ≠ (F_Pk b).2.1 := by decide +kernel
theorem o_Pk : ∀ k, k < 8 → parseFieldDescriptor (F_Pk k).2.2.1 = some (t_Pk k) := by decide +kernel
theorem i_Pk : ∀ w ∈ u_ws R_Pk F_Pk 8, w ∈ WL := by decide +kernel
def F_Sh : u_T := fun k => match k with
  | 0 => ("CrateCushions$Shocks", "peak", "I", false)
  | 1 => ("CrateCushions$Shocks", "longest", "I", false)
  | 2 => ("CrateCushions$Shocks", "count", "I", false)
  | _ => ("CrateCushions$Shocks", "toldCount", "I", false)
def t_Sh : Nat → FieldType := fun k => match k with
  | 0 => .int
  | 1 => .int
  | 2 => .int
  | _ => .int
theorem n_Sh : ∀ a, a < 4 → ∀ b, b < 4 → a ≠ b → (F_Sh a).2.1 ≠ (F_Sh b).2.1 := by decide +kernel
theorem o_Sh : ∀ k, k < 4 → parseFieldDescriptor (F_Sh k).2.2.1 = some (t_Sh k) := by decide +kernel
theorem i_Sh : ∀ w ∈ u_ws R_Sh F_Sh 4, w ∈ WL := by decide +kernel
def F_Sk : u_T := fun k => match k with
  | 0 => ("CrateCushions$Stock", "lengthOf", "[I", true)
  | 1 => ("CrateCushions$Stock", "widthOf", "[I", true)
  | 2 => ("CrateCushions$Stock", "heightOf", "[I", true)
  | 3 => ("CrateCushions$Stock", "taken", "[Z", true)
  | _ => ("CrateCushions$Stock", "count", "I", false)
def t_Sk : Nat → FieldType := fun k => match k with
  | 0 => .array .int
  | 1 => .array .int
  | 2 => .array .int
  | 3 => .array .boolean
  | _ => .int
theorem n_Sk : ∀ a, a < 5 → ∀ b, b < 5 → a ≠ b → (F_Sk a).2.1 ≠ (F_Sk b).2.1 := by decide +kernel
theorem o_Sk : ∀ k, k < 5 → parseFieldDescriptor (F_Sk k).2.2.1 = some (t_Sk k) := by decide +kernel
theorem i_Sk : ∀ w ∈ u_ws R_Sk F_Sk 5, w ∈ WL := by decide +kernel
def F_Cc : u_T := fun k => match k with
  | 0 => ("CrateCushions", "goods", "LCrateCushions$Goods;", true)
  | 1 => ("CrateCushions", "foams", "LCrateCushions$Foams;", true)
  | 2 => ("CrateCushions", "packing", "LCrateCushions$Packing;", true)
  | 3 => ("CrateCushions", "stock", "LCrateCushions$Stock;", true)
  | 4 => ("CrateCushions", "air", "LCrateCushions$Air;", true)
  | 5 => ("CrateCushions", "shocks", "LCrateCushions$Shocks;", true)
  | _ => ("CrateCushions", "journey", "LCrateCushions$Journey;", true)
def t_Cc : Nat → FieldType := fun k => match k with
  | 0 => .object "CrateCushions$Goods"
  | 1 => .object "CrateCushions$Foams"
  | 2 => .object "CrateCushions$Packing"
  | 3 => .object "CrateCushions$Stock"
  | 4 => .object "CrateCushions$Air"
  | 5 => .object "CrateCushions$Shocks"
  | _ => .object "CrateCushions$Journey"
theorem n_Cc : ∀ a, a < 7 → ∀ b, b < 7 → a ≠ b → (F_Cc a).2.1 ≠ (F_Cc b).2.1 := by decide +kernel
theorem o_Cc : ∀ k, k < 7 → parseFieldDescriptor (F_Cc k).2.2.1 = some (t_Cc k) := by decide +kernel
theorem i_Cc : ∀ w ∈ u_ws R_Cc F_Cc 7, w ∈ WL := by decide +kernel
def F_Mo : u_T := fun k => match k with
  | 0 => ("CrateCushionsModel", "thrown", "I", false)
  | 1 => ("CrateCushionsModel", "objects", "I", false)
  | 2 => ("CrateCushionsModel", "sizes", "[I", true)
  | 3 => ("CrateCushionsModel", "grams", "[I", true)
  | 4 => ("CrateCushionsModel", "weak", "[Z", true)
  | 5 => ("CrateCushionsModel", "rows", "[I", true)
  | 6 => ("CrateCushionsModel", "thick", "[I", true)
  | 7 => ("CrateCushionsModel", "points", "[I", true)
  | 8 => ("CrateCushionsModel", "stresses", "[I", true)
  | 9 => ("CrateCushionsModel", "values", "[I", true)
  | 10 => ("CrateCushionsModel", "packed", "Z", false)
  | 11 => ("CrateCushionsModel", "ways", "[I", true)
  | 12 => ("CrateCushionsModel", "tried", "[I", true)
  | 13 => ("CrateCushionsModel", "gap", "I", false)
  | 14 => ("CrateCushionsModel", "crateLength", "I", false)
  | 15 => ("CrateCushionsModel", "crateWidth", "I", false)
  | 16 => ("CrateCushionsModel", "crateHeight", "I", false)
  | 17 => ("CrateCushionsModel", "parts", "[I", true)
  | 18 => ("CrateCushionsModel", "crates", "I", false)
  | 19 => ("CrateCushionsModel", "inner", "[I", true)
  | 20 => ("CrateCushionsModel", "taken", "[Z", true)
  | 21 => ("CrateCushionsModel", "hours", "I", false)
  | 22 => ("CrateCushionsModel", "insides", "[I", true)
  | 23 => ("CrateCushionsModel", "lag", "I", false)
  | 24 => ("CrateCushionsModel", "peak", "I", false)
  | 25 => ("CrateCushionsModel", "length", "I", false)
  | 26 => ("CrateCushionsModel", "limited", "Z", false)
  | 27 => ("CrateCushionsModel", "shocks", "I", false)
  | 28 => ("CrateCushionsModel", "told", "I", false)
  | 29 => ("CrateCushionsModel", "legs", "I", false)
  | _ => ("CrateCushionsModel", "drops", "[I", true)
def t_Mo : Nat → FieldType := fun k => match k with
  | 0 => .int
  | 1 => .int
  | 2 => .array .int
  | 3 => .array .int
  | 4 => .array .boolean
  | 5 => .array .int
  | 6 => .array .int
  | 7 => .array .int
  | 8 => .array .int
  | 9 => .array .int
  | 10 => .boolean
  | 11 => .array .int
  | 12 => .array .int
  | 13 => .int
  | 14 => .int
  | 15 => .int
  | 16 => .int
  | 17 => .array .int
  | 18 => .int
  | 19 => .array .int
  | 20 => .array .boolean
  | 21 => .int
  | 22 => .array .int
  | 23 => .int
  | 24 => .int
  | 25 => .int
  | 26 => .boolean
  | 27 => .int
  | 28 => .int
  | 29 => .int
  | _ => .array .int
theorem n_Mo : ∀ a, a < 31 → ∀ b, b < 31 → a ≠ b → (F_Mo a).2.1 ≠ (F_Mo b).2.1 := by decide +kernel
theorem o_Mo : ∀ k, k < 31 → parseFieldDescriptor (F_Mo k).2.2.1 = some (t_Mo k) := by decide +kernel
theorem i_Mo : ∀ w ∈ u_ws R_Mo F_Mo 31, w ∈ WL := by decide +kernel
abbrev vwCl : List vw_C := [(R_Ai, F_Ai, 3), (R_Fo, F_Fo, 5), (R_Go, F_Go, 6), (R_Jo, F_Jo, 2), (R_Pk, F_Pk, 8), (R_Sh, F_Sh, 4), (R_Sk, F_Sk, 5), (R_Cc, F_Cc, 7), (R_Mo, F_Mo, 31)]
abbrev b_Cc_init : ByteArray := prog_1_method_1_code
def y_Cc_init : MethodName := ⟨R_Cc, "<init>", "()V"⟩
abbrev b_Go_init : ByteArray := prog_4_method_1_code
def y_Go_init : MethodName := ⟨R_Go, "<init>", "()V"⟩
abbrev b_Fo_init : ByteArray := prog_3_method_1_code
def y_Fo_init : MethodName := ⟨R_Fo, "<init>", "()V"⟩
abbrev b_Pk_init : ByteArray := prog_6_method_1_code
def y_Pk_init : MethodName := ⟨R_Pk, "<init>", "()V"⟩
abbrev b_Sk_init : ByteArray := prog_8_method_1_code
def y_Sk_init : MethodName := ⟨R_Sk, "<init>", "()V"⟩
abbrev b_Ai_init : ByteArray := prog_2_method_1_code
def y_Ai_init : MethodName := ⟨R_Ai, "<init>", "()V"⟩
abbrev b_Sh_init : ByteArray := prog_7_method_1_code
def y_Sh_init : MethodName := ⟨R_Sh, "<init>", "()V"⟩
abbrev b_Jo_init : ByteArray := prog_5_method_1_code
def y_Jo_init : MethodName := ⟨R_Jo, "<init>", "()V"⟩
abbrev b_La_object : ByteArray := method_3_code
def y_La_object : MethodName := ⟨R_La, "object", "(LCrateCushions;IIII[J)I"⟩
abbrev b_Cc_object : ByteArray := prog_1_method_2_code
def y_Cc_object : MethodName := ⟨R_Cc, "object", "(IIII)I"⟩
abbrev b_Go_add : ByteArray := prog_4_method_2_code
def y_Go_add : MethodName := ⟨R_Go, "add", "(IIII)I"⟩
abbrev b_Cc_requireRoom : ByteArray := prog_1_method_26_code
def y_Cc_requireRoom : MethodName := ⟨R_Cc, "requireRoom", "(II)V"⟩
abbrev b_Cc_requireRange : ByteArray := prog_1_method_25_code
def y_Cc_requireRange : MethodName := ⟨R_Cc, "requireRange", "(III)V"⟩
abbrev b_La_weak : ByteArray := method_4_code
def y_La_weak : MethodName := ⟨R_La, "weak", "(LCrateCushions;IIZ[J)I"⟩
abbrev b_Cc_weak : ByteArray := prog_1_method_3_code
def y_Cc_weak : MethodName := ⟨R_Cc, "weak", "(IIZ)Z"⟩
abbrev b_Go_setWeak : ByteArray := prog_4_method_3_code
def y_Go_setWeak : MethodName := ⟨R_Go, "setWeak", "(IIZ)Z"⟩
abbrev b_Cc_requireIndex : ByteArray := prog_1_method_24_code
def y_Cc_requireIndex : MethodName := ⟨R_Cc, "requireIndex", "(II)V"⟩
abbrev b_La_foam : ByteArray := method_5_code
def y_La_foam : MethodName := ⟨R_La, "foam", "(LCrateCushions;II[J)I"⟩
abbrev b_Cc_foam : ByteArray := prog_1_method_4_code
def y_Cc_foam : MethodName := ⟨R_Cc, "foam", "(II)I"⟩
abbrev b_Fo_addRow : ByteArray := prog_3_method_2_code
def y_Fo_addRow : MethodName := ⟨R_Fo, "addRow", "(II)I"⟩
abbrev b_La_point : ByteArray := method_6_code
def y_La_point : MethodName := ⟨R_La, "point", "(LCrateCushions;IIII[J)I"⟩
abbrev b_Cc_point : ByteArray := prog_1_method_5_code
def y_Cc_point : MethodName := ⟨R_Cc, "point", "(IIII)I"⟩
abbrev b_Fo_addPoint : ByteArray := prog_3_method_3_code
def y_Fo_addPoint : MethodName := ⟨R_Fo, "addPoint", "(IIII)I"⟩
abbrev b_Fo_placeOf : ByteArray := prog_3_method_6_code
def y_Fo_placeOf : MethodName := ⟨R_Fo, "placeOf", "(II)I"⟩
abbrev b_La_value : ByteArray := method_7_code
def y_La_value : MethodName := ⟨R_La, "value", "(LCrateCushions;III[J)I"⟩
abbrev b_Cc_value : ByteArray := prog_1_method_6_code
def y_Cc_value : MethodName := ⟨R_Cc, "value", "(III)I"⟩
abbrev b_Fo_valueAt : ByteArray := prog_3_method_4_code
def y_Fo_valueAt : MethodName := ⟨R_Fo, "valueAt", "(III)I"⟩
abbrev b_Fo_valueBetween : ByteArray := prog_3_method_7_code
def y_Fo_valueBetween : MethodName := ⟨R_Fo, "valueBetween", "(III)I"⟩
abbrev b_Ma_floorDiv : ByteArray := prog_16_method_47_code
def y_Ma_floorDiv : MethodName := ⟨R_Ma, "floorDiv", "(II)I"⟩
abbrev b_La_thickness : ByteArray := method_8_code
def y_La_thickness : MethodName := ⟨R_La, "thickness", "(LCrateCushions;III[J)I"⟩
abbrev b_Cc_thickness : ByteArray := prog_1_method_7_code
def y_Cc_thickness : MethodName := ⟨R_Cc, "thickness", "(III)I"⟩
abbrev b_Fo_leastThickness : ByteArray := prog_3_method_5_code
def y_Fo_leastThickness : MethodName := ⟨R_Fo, "leastThickness", "(III)I"⟩
abbrev b_La_pack : ByteArray := method_9_code
def y_La_pack : MethodName := ⟨R_La, "pack", "(LCrateCushions;II[J)I"⟩
abbrev b_Cc_pack : ByteArray := prog_1_method_8_code
def y_Cc_pack : MethodName := ⟨R_Cc, "pack", "(II)I"⟩
abbrev b_Pk_packSet : ByteArray := prog_6_method_2_code
def y_Pk_packSet : MethodName := ⟨R_Pk, "packSet", "(LCrateCushions$Goods;II)I"⟩
abbrev b_Pk_isIn : ByteArray := prog_6_method_6_code
def y_Pk_isIn : MethodName := ⟨R_Pk, "isIn", "(II)Z"⟩
abbrev b_Go_mayStandAnyhow : ByteArray := prog_4_method_5_code
def y_Go_mayStandAnyhow : MethodName := ⟨R_Go, "mayStandAnyhow", "(I)Z"⟩
abbrev b_Pk_findLeast : ByteArray := prog_6_method_7_code
def y_Pk_findLeast : MethodName := ⟨R_Pk, "findLeast", "(LCrateCushions$Goods;)V"⟩
abbrev b_Pk_tryWithin : ByteArray := prog_6_method_8_code
def y_Pk_tryWithin : MethodName := ⟨R_Pk, "tryWithin", "(LCrateCushions$Goods;II)V"⟩
abbrev b_Go_shortestWay : ByteArray := prog_4_method_7_code
def y_Go_shortestWay : MethodName := ⟨R_Go, "shortestWay", "(III)I"⟩
abbrev b_Go_sizeOf : ByteArray := prog_4_method_6_code
def y_Go_sizeOf : MethodName := ⟨R_Go, "sizeOf", "(III)I"⟩
abbrev b_Go_mayStand : ByteArray := prog_4_method_4_code
def y_Go_mayStand : MethodName := ⟨R_Go, "mayStand", "(II)Z"⟩
abbrev b_Pk_triedIsLower : ByteArray := prog_6_method_9_code
def y_Pk_triedIsLower : MethodName := ⟨R_Pk, "triedIsLower", "()Z"⟩
abbrev b_Pk_keep : ByteArray := prog_6_method_10_code
def y_Pk_keep : MethodName := ⟨R_Pk, "keep", "(III)V"⟩
abbrev b_Pk_placeInRow : ByteArray := prog_6_method_11_code
def y_Pk_placeInRow : MethodName := ⟨R_Pk, "placeInRow", "(LCrateCushions$Goods;)V"⟩
abbrev b_In_bitCount : ByteArray := prog_15_method_49_code
def y_In_bitCount : MethodName := ⟨R_In, "bitCount", "(I)I"⟩
abbrev b_La_size : ByteArray := method_10_code
def y_La_size : MethodName := ⟨R_La, "size", "(LCrateCushions;I[J)I"⟩
abbrev b_Cc_size : ByteArray := prog_1_method_9_code
def y_Cc_size : MethodName := ⟨R_Cc, "size", "(I)I"⟩
abbrev b_Pk_sizeAlong : ByteArray := prog_6_method_3_code
def y_Pk_sizeAlong : MethodName := ⟨R_Pk, "sizeAlong", "(I)I"⟩
abbrev b_Pk_requirePacked : ByteArray := prog_6_method_5_code
def y_Pk_requirePacked : MethodName := ⟨R_Pk, "requirePacked", "()V"⟩
abbrev b_La_at : ByteArray := method_11_code
def y_La_at : MethodName := ⟨R_La, "at", "(LCrateCushions;II[J)I"⟩
abbrev b_Cc_at : ByteArray := prog_1_method_10_code
def y_Cc_at : MethodName := ⟨R_Cc, "at", "(II)I"⟩
abbrev b_Pk_tell : ByteArray := prog_6_method_4_code
def y_Pk_tell : MethodName := ⟨R_Pk, "tell", "(II)I"⟩
abbrev b_La_crate : ByteArray := method_12_code
def y_La_crate : MethodName := ⟨R_La, "crate", "(LCrateCushions;III[J)I"⟩
abbrev b_Cc_crate : ByteArray := prog_1_method_11_code
def y_Cc_crate : MethodName := ⟨R_Cc, "crate", "(III)I"⟩
abbrev b_Sk_add : ByteArray := prog_8_method_2_code
def y_Sk_add : MethodName := ⟨R_Sk, "add", "(III)I"⟩
abbrev b_La_match : ByteArray := method_13_code
def y_La_match : MethodName := ⟨R_La, "match", "(LCrateCushions;[J)I"⟩
abbrev b_Cc_match : ByteArray := prog_1_method_12_code
def y_Cc_match : MethodName := ⟨R_Cc, "match", "()I"⟩
abbrev b_Sk_takeFor : ByteArray := prog_8_method_3_code
def y_Sk_takeFor : MethodName := ⟨R_Sk, "takeFor", "(III)I"⟩
abbrev b_Sk_hasRoom : ByteArray := prog_8_method_6_code
def y_Sk_hasRoom : MethodName := ⟨R_Sk, "hasRoom", "(IIII)Z"⟩
abbrev b_La_free : ByteArray := method_14_code
def y_La_free : MethodName := ⟨R_La, "free", "(LCrateCushions;I[J)I"⟩
abbrev b_Cc_free : ByteArray := prog_1_method_13_code
def y_Cc_free : MethodName := ⟨R_Cc, "free", "(I)Z"⟩
abbrev b_Sk_release : ByteArray := prog_8_method_4_code
def y_Sk_release : MethodName := ⟨R_Sk, "release", "(I)Z"⟩
abbrev b_La_split : ByteArray := method_15_code
def y_La_split : MethodName := ⟨R_La, "split", "(LCrateCushions;I[J)I"⟩
abbrev b_Cc_split : ByteArray := prog_1_method_14_code
def y_Cc_split : MethodName := ⟨R_Cc, "split", "(I)I"⟩
abbrev b_Go_leastCrates : ByteArray := prog_4_method_8_code
def y_Go_leastCrates : MethodName := ⟨R_Go, "leastCrates", "(I)I"⟩
abbrev b_Go_partSet : ByteArray := prog_4_method_9_code
def y_Go_partSet : MethodName := ⟨R_Go, "partSet", "(II)V"⟩
abbrev b_La_lag : ByteArray := method_16_code
def y_La_lag : MethodName := ⟨R_La, "lag", "(LCrateCushions;I[J)I"⟩
abbrev b_Cc_lag : ByteArray := prog_1_method_15_code
def y_Cc_lag : MethodName := ⟨R_Cc, "lag", "(I)I"⟩
abbrev b_Ai_setLag : ByteArray := prog_2_method_2_code
def y_Ai_setLag : MethodName := ⟨R_Ai, "setLag", "(I)I"⟩
abbrev b_La_climate : ByteArray := method_17_code
def y_La_climate : MethodName := ⟨R_La, "climate", "(LCrateCushions;I[J)I"⟩
abbrev b_Cc_climate : ByteArray := prog_1_method_16_code
def y_Cc_climate : MethodName := ⟨R_Cc, "climate", "(I)I"⟩
abbrev b_Ai_nextHour : ByteArray := prog_2_method_3_code
def y_Ai_nextHour : MethodName := ⟨R_Ai, "nextHour", "(I)I"⟩
abbrev b_Ma_max : ByteArray := prog_16_method_65_code
def y_Ma_max : MethodName := ⟨R_Ma, "max", "(II)I"⟩
abbrev b_La_inside : ByteArray := method_18_code
def y_La_inside : MethodName := ⟨R_La, "inside", "(LCrateCushions;I[J)I"⟩
abbrev b_Cc_inside : ByteArray := prog_1_method_17_code
def y_Cc_inside : MethodName := ⟨R_Cc, "inside", "(I)I"⟩
abbrev b_Ai_afterHour : ByteArray := prog_2_method_4_code
def y_Ai_afterHour : MethodName := ⟨R_Ai, "afterHour", "(I)I"⟩
abbrev b_La_steady : ByteArray := method_19_code
def y_La_steady : MethodName := ⟨R_La, "steady", "(LCrateCushions;II[J)I"⟩
abbrev b_Cc_steady : ByteArray := prog_1_method_18_code
def y_Cc_steady : MethodName := ⟨R_Cc, "steady", "(II)I"⟩
abbrev b_Ai_longestWithin : ByteArray := prog_2_method_5_code
def y_Ai_longestWithin : MethodName := ⟨R_Ai, "longestWithin", "(II)I"⟩
abbrev b_La_limit : ByteArray := method_20_code
def y_La_limit : MethodName := ⟨R_La, "limit", "(LCrateCushions;II)I"⟩
abbrev b_Cc_limit : ByteArray := prog_1_method_19_code
def y_Cc_limit : MethodName := ⟨R_Cc, "limit", "(II)V"⟩
abbrev b_Sh_allow : ByteArray := prog_7_method_2_code
def y_Sh_allow : MethodName := ⟨R_Sh, "allow", "(II)V"⟩
abbrev b_La_shock : ByteArray := method_21_code
def y_La_shock : MethodName := ⟨R_La, "shock", "(LCrateCushions;II[J)I"⟩
abbrev b_Cc_shock : ByteArray := prog_1_method_20_code
def y_Cc_shock : MethodName := ⟨R_Cc, "shock", "(II)Z"⟩
abbrev b_Sh_add : ByteArray := prog_7_method_3_code
def y_Sh_add : MethodName := ⟨R_Sh, "add", "(II)Z"⟩
abbrev b_La_route : ByteArray := method_22_code
def y_La_route : MethodName := ⟨R_La, "route", "(LCrateCushions;II[J)I"⟩
abbrev b_Cc_route : ByteArray := prog_1_method_21_code
def y_Cc_route : MethodName := ⟨R_Cc, "route", "(II)I"⟩
abbrev b_Jo_plan : ByteArray := prog_5_method_2_code
def y_Jo_plan : MethodName := ⟨R_Jo, "plan", "(II)I"⟩
abbrev b_La_drop : ByteArray := method_23_code
def y_La_drop : MethodName := ⟨R_La, "drop", "(LCrateCushions;I[J)I"⟩
abbrev b_Cc_drop : ByteArray := prog_1_method_22_code
def y_Cc_drop : MethodName := ⟨R_Cc, "drop", "(I)I"⟩
abbrev b_Jo_dropOf : ByteArray := prog_5_method_3_code
def y_Jo_dropOf : MethodName := ⟨R_Jo, "dropOf", "(I)I"⟩
abbrev b_La_count : ByteArray := method_24_code
def y_La_count : MethodName := ⟨R_La, "count", "(LCrateCushions;I[J)I"⟩
abbrev b_Cc_count : ByteArray := prog_1_method_23_code
def y_Cc_count : MethodName := ⟨R_Cc, "count", "(I)I"⟩
abbrev b_Sk_takenCount : ByteArray := prog_8_method_5_code
def y_Sk_takenCount : MethodName := ⟨R_Sk, "takenCount", "()I"⟩
abbrev b_Mo_init : ByteArray := prog_10_method_1_code
def y_Mo_init : MethodName := ⟨R_Mo, "<init>", "()V"⟩
abbrev b_Mo_thrown : ByteArray := prog_10_method_2_code
def y_Mo_thrown : MethodName := ⟨R_Mo, "thrown", "()I"⟩
abbrev b_Mo_object : ByteArray := prog_10_method_6_code
def y_Mo_object : MethodName := ⟨R_Mo, "object", "(IIII)I"⟩
abbrev b_Mo_within : ByteArray := prog_10_method_4_code
def y_Mo_within : MethodName := ⟨R_Mo, "within", "(III)Z"⟩
abbrev b_Mo_goes : ByteArray := prog_10_method_3_code
def y_Mo_goes : MethodName := ⟨R_Mo, "goes", "(ZZZ)Z"⟩
abbrev b_Mo_weak : ByteArray := prog_10_method_7_code
def y_Mo_weak : MethodName := ⟨R_Mo, "weak", "(IIZ)Z"⟩
abbrev b_Mo_isObject : ByteArray := prog_10_method_5_code
def y_Mo_isObject : MethodName := ⟨R_Mo, "isObject", "(I)Z"⟩
abbrev b_Mo_foam : ByteArray := prog_10_method_8_code
def y_Mo_foam : MethodName := ⟨R_Mo, "foam", "(II)I"⟩
abbrev b_Mo_point : ByteArray := prog_10_method_10_code
def y_Mo_point : MethodName := ⟨R_Mo, "point", "(IIII)I"⟩
abbrev b_Mo_isRow : ByteArray := prog_10_method_9_code
def y_Mo_isRow : MethodName := ⟨R_Mo, "isRow", "(II)Z"⟩
abbrev b_Mo_value : ByteArray := prog_10_method_13_code
def y_Mo_value : MethodName := ⟨R_Mo, "value", "(III)I"⟩
abbrev b_Mo_valueOf : ByteArray := prog_10_method_12_code
def y_Mo_valueOf : MethodName := ⟨R_Mo, "valueOf", "(II)I"⟩
abbrev b_Mo_up : ByteArray := prog_10_method_11_code
def y_Mo_up : MethodName := ⟨R_Mo, "up", "(II)I"⟩
abbrev b_Mo_thickness : ByteArray := prog_10_method_14_code
def y_Mo_thickness : MethodName := ⟨R_Mo, "thickness", "(III)I"⟩
abbrev b_Mo_pack : ByteArray := prog_10_method_21_code
def y_Mo_pack : MethodName := ⟨R_Mo, "pack", "(II)I"⟩
abbrev b_Mo_isIn : ByteArray := prog_10_method_16_code
def y_Mo_isIn : MethodName := ⟨R_Mo, "isIn", "(II)Z"⟩
abbrev b_Mo_turn : ByteArray := prog_10_method_20_code
def y_Mo_turn : MethodName := ⟨R_Mo, "turn", "(II)V"⟩
abbrev b_Mo_stands : ByteArray := prog_10_method_19_code
def y_Mo_stands : MethodName := ⟨R_Mo, "stands", "(I)Z"⟩
abbrev b_Mo_lengthOf : ByteArray := prog_10_method_17_code
def y_Mo_lengthOf : MethodName := ⟨R_Mo, "lengthOf", "(II)I"⟩
abbrev b_Mo_along : ByteArray := prog_10_method_15_code
def y_Mo_along : MethodName := ⟨R_Mo, "along", "(III)I"⟩
abbrev b_Mo_widest : ByteArray := prog_10_method_18_code
def y_Mo_widest : MethodName := ⟨R_Mo, "widest", "(III)I"⟩
abbrev b_Mo_size : ByteArray := prog_10_method_22_code
def y_Mo_size : MethodName := ⟨R_Mo, "size", "(I)I"⟩
abbrev b_Mo_at : ByteArray := prog_10_method_23_code
def y_Mo_at : MethodName := ⟨R_Mo, "at", "(II)I"⟩
abbrev b_Mo_crate : ByteArray := prog_10_method_24_code
def y_Mo_crate : MethodName := ⟨R_Mo, "crate", "(III)I"⟩
abbrev b_Mo_match : ByteArray := prog_10_method_26_code
def y_Mo_match : MethodName := ⟨R_Mo, "match", "()I"⟩
abbrev b_Mo_hasRoom : ByteArray := prog_10_method_25_code
def y_Mo_hasRoom : MethodName := ⟨R_Mo, "hasRoom", "(I)Z"⟩
abbrev b_Mo_free : ByteArray := prog_10_method_27_code
def y_Mo_free : MethodName := ⟨R_Mo, "free", "(I)Z"⟩
abbrev b_Mo_split : ByteArray := prog_10_method_29_code
def y_Mo_split : MethodName := ⟨R_Mo, "split", "(I)I"⟩
abbrev b_Mo_weight : ByteArray := prog_10_method_28_code
def y_Mo_weight : MethodName := ⟨R_Mo, "weight", "(I)I"⟩
abbrev b_Mo_lag : ByteArray := prog_10_method_30_code
def y_Mo_lag : MethodName := ⟨R_Mo, "lag", "(I)I"⟩
abbrev b_Mo_climate : ByteArray := prog_10_method_31_code
def y_Mo_climate : MethodName := ⟨R_Mo, "climate", "(I)I"⟩
abbrev b_Mo_inside : ByteArray := prog_10_method_32_code
def y_Mo_inside : MethodName := ⟨R_Mo, "inside", "(I)I"⟩
abbrev b_Mo_steady : ByteArray := prog_10_method_33_code
def y_Mo_steady : MethodName := ⟨R_Mo, "steady", "(II)I"⟩
abbrev b_Mo_limit : ByteArray := prog_10_method_34_code
def y_Mo_limit : MethodName := ⟨R_Mo, "limit", "(II)V"⟩
abbrev b_Mo_shock : ByteArray := prog_10_method_35_code
def y_Mo_shock : MethodName := ⟨R_Mo, "shock", "(II)Z"⟩
abbrev b_Mo_route : ByteArray := prog_10_method_36_code
def y_Mo_route : MethodName := ⟨R_Mo, "route", "(II)I"⟩
abbrev b_Mo_drop : ByteArray := prog_10_method_37_code
def y_Mo_drop : MethodName := ⟨R_Mo, "drop", "(I)I"⟩
abbrev b_Mo_count : ByteArray := prog_10_method_38_code
def y_Mo_count : MethodName := ⟨R_Mo, "count", "(I)I"⟩
end
section
set_option maxRecDepth 20000 in
theorem m_0 : Cond.selects "java/lang/Throwable" ⟨"java/lang/Throwable", "fillInStackTrace", "(I)Ljava/lang/Throwable;"⟩ ⟨"java/lang/Throwable", "fillInStackTrace", "(I)Ljava/lang/Throwable;"⟩ ∈ WL := List.mem_filter.mpr ⟨List.mem_of_getElem? (i := 0) rfl, rfl⟩
set_option maxRecDepth 20000 in
theorem m_1 : Cond.selects R_Fo y_Fo_placeOf y_Fo_placeOf ∈ WL := List.mem_filter.mpr ⟨List.mem_of_getElem? (i := 1) rfl, rfl⟩
set_option maxRecDepth 20000 in
theorem m_2 : Cond.selects R_Fo y_Fo_valueBetween y_Fo_valueBetween ∈ WL := List.mem_filter.mpr ⟨List.mem_of_getElem? (i := 2) rfl, rfl⟩
set_option maxRecDepth 20000 in
theorem m_3 : Cond.selects R_Pk y_Pk_findLeast y_Pk_findLeast ∈ WL := List.mem_filter.mpr ⟨List.mem_of_getElem? (i := 3) rfl, rfl⟩
set_option maxRecDepth 20000 in
theorem m_4 : Cond.selects R_Pk y_Pk_tryWithin y_Pk_tryWithin ∈ WL := List.mem_filter.mpr ⟨List.mem_of_getElem? (i := 4) rfl, rfl⟩
set_option maxRecDepth 20000 in
theorem m_5 : Cond.selects R_Pk y_Pk_triedIsLower y_Pk_triedIsLower ∈ WL := List.mem_filter.mpr ⟨List.mem_of_getElem? (i := 5) rfl, rfl⟩
set_option maxRecDepth 20000 in
theorem m_6 : Cond.selects R_Pk y_Pk_keep y_Pk_keep ∈ WL := List.mem_filter.mpr ⟨List.mem_of_getElem? (i := 6) rfl, rfl⟩
set_option maxRecDepth 20000 in
theorem m_7 : Cond.selects R_Pk y_Pk_placeInRow y_Pk_placeInRow ∈ WL := List.mem_filter.mpr ⟨List.mem_of_getElem? (i := 7) rfl, rfl⟩
set_option maxRecDepth 20000 in
theorem m_8 : Cond.selects R_Pk y_Pk_requirePacked y_Pk_requirePacked ∈ WL := List.mem_filter.mpr ⟨List.mem_of_getElem? (i := 8) rfl, rfl⟩
set_option maxRecDepth 20000 in
theorem m_9 : Cond.selects R_Sk y_Sk_hasRoom y_Sk_hasRoom ∈ WL := List.mem_filter.mpr ⟨List.mem_of_getElem? (i := 9) rfl, rfl⟩
set_option maxRecDepth 20000 in
theorem m_10 : Cond.selects R_Go y_Go_partSet y_Go_partSet ∈ WL := List.mem_filter.mpr ⟨List.mem_of_getElem? (i := 10) rfl, rfl⟩
set_option maxRecDepth 20000 in
theorem m_11 : Cond.selects R_Mo y_Mo_goes y_Mo_goes ∈ WL := List.mem_filter.mpr ⟨List.mem_of_getElem? (i := 11) rfl, rfl⟩
set_option maxRecDepth 20000 in
theorem m_12 : Cond.selects R_Mo y_Mo_isObject y_Mo_isObject ∈ WL := List.mem_filter.mpr ⟨List.mem_of_getElem? (i := 12) rfl, rfl⟩
set_option maxRecDepth 20000 in
theorem m_13 : Cond.selects R_Mo y_Mo_isRow y_Mo_isRow ∈ WL := List.mem_filter.mpr ⟨List.mem_of_getElem? (i := 13) rfl, rfl⟩
set_option maxRecDepth 20000 in
theorem m_14 : Cond.selects R_Mo y_Mo_valueOf y_Mo_valueOf ∈ WL := List.mem_filter.mpr ⟨List.mem_of_getElem? (i := 14) rfl, rfl⟩
set_option maxRecDepth 20000 in
theorem m_15 : Cond.selects R_Mo y_Mo_turn y_Mo_turn ∈ WL := List.mem_filter.mpr ⟨List.mem_of_getElem? (i := 15) rfl, rfl⟩
set_option maxRecDepth 20000 in
theorem m_16 : Cond.selects R_Mo y_Mo_stands y_Mo_stands ∈ WL := List.mem_filter.mpr ⟨List.mem_of_getElem? (i := 16) rfl, rfl⟩
set_option maxRecDepth 20000 in
theorem m_17 : Cond.selects R_Mo y_Mo_lengthOf y_Mo_lengthOf ∈ WL := List.mem_filter.mpr ⟨List.mem_of_getElem? (i := 17) rfl, rfl⟩
set_option maxRecDepth 20000 in
theorem m_18 : Cond.selects R_Mo y_Mo_along y_Mo_along ∈ WL := List.mem_filter.mpr ⟨List.mem_of_getElem? (i := 18) rfl, rfl⟩
set_option maxRecDepth 20000 in
theorem m_19 : Cond.selects R_Mo y_Mo_widest y_Mo_widest ∈ WL := List.mem_filter.mpr ⟨List.mem_of_getElem? (i := 19) rfl, rfl⟩
set_option maxRecDepth 20000 in
theorem m_20 : Cond.selects R_Mo y_Mo_hasRoom y_Mo_hasRoom ∈ WL := List.mem_filter.mpr ⟨List.mem_of_getElem? (i := 20) rfl, rfl⟩
set_option maxRecDepth 20000 in
theorem m_21 : Cond.selects R_Mo y_Mo_weight y_Mo_weight ∈ WL := List.mem_filter.mpr ⟨List.mem_of_getElem? (i := 21) rfl, rfl⟩
set_option maxRecDepth 20000 in
theorem m_22 : Cond.initialized R_La ∈ WL := List.mem_filter.mpr ⟨List.mem_of_getElem? (i := 22) rfl, rfl⟩
set_option maxRecDepth 20000 in
theorem m_23 : Cond.initialized R_Cc ∈ WL := List.mem_filter.mpr ⟨List.mem_of_getElem? (i := 23) rfl, rfl⟩
set_option maxRecDepth 20000 in
theorem m_24 : Cond.initialized R_Go ∈ WL := List.mem_filter.mpr ⟨List.mem_of_getElem? (i := 24) rfl, rfl⟩
set_option maxRecDepth 20000 in
theorem m_25 : Cond.initialized R_Fo ∈ WL := List.mem_filter.mpr ⟨List.mem_of_getElem? (i := 25) rfl, rfl⟩
set_option maxRecDepth 20000 in
theorem m_26 : Cond.initialized R_Pk ∈ WL := List.mem_filter.mpr ⟨List.mem_of_getElem? (i := 26) rfl, rfl⟩
set_option maxRecDepth 20000 in
theorem m_27 : Cond.initialized R_Sk ∈ WL := List.mem_filter.mpr ⟨List.mem_of_getElem? (i := 27) rfl, rfl⟩
set_option maxRecDepth 20000 in
theorem m_28 : Cond.initialized R_Ai ∈ WL := List.mem_filter.mpr ⟨List.mem_of_getElem? (i := 28) rfl, rfl⟩
set_option maxRecDepth 20000 in
theorem m_29 : Cond.initialized R_Sh ∈ WL := List.mem_filter.mpr ⟨List.mem_of_getElem? (i := 29) rfl, rfl⟩
set_option maxRecDepth 20000 in
theorem m_30 : Cond.initialized R_Jo ∈ WL := List.mem_filter.mpr ⟨List.mem_of_getElem? (i := 30) rfl, rfl⟩
set_option maxRecDepth 20000 in
theorem m_31 : Cond.initialized R_Mo ∈ WL := List.mem_filter.mpr ⟨List.mem_of_getElem? (i := 31) rfl, rfl⟩
set_option maxRecDepth 20000 in
theorem m_32 : Cond.initialized "java/lang/Throwable" ∈ WL := List.mem_filter.mpr ⟨List.mem_of_getElem? (i := 32) rfl, rfl⟩
set_option maxRecDepth 20000 in
theorem m_33 : Cond.initialized "java/lang/Exception" ∈ WL := List.mem_filter.mpr ⟨List.mem_of_getElem? (i := 33) rfl, rfl⟩
set_option maxRecDepth 20000 in
theorem m_34 : Cond.initialized "java/lang/RuntimeException" ∈ WL := List.mem_filter.mpr ⟨List.mem_of_getElem? (i := 34) rfl, rfl⟩
set_option maxRecDepth 20000 in
theorem m_35 : Cond.initialized "java/lang/IllegalStateException" ∈ WL := List.mem_filter.mpr ⟨List.mem_of_getElem? (i := 35) rfl, rfl⟩
set_option maxRecDepth 20000 in
theorem m_36 : Cond.initialized "java/lang/IllegalArgumentException" ∈ WL := List.mem_filter.mpr ⟨List.mem_of_getElem? (i := 36) rfl, rfl⟩
set_option maxRecDepth 20000 in
theorem m_37 : Cond.initialized "java/lang/IndexOutOfBoundsException" ∈ WL := List.mem_filter.mpr ⟨List.mem_of_getElem? (i := 37) rfl, rfl⟩
set_option maxRecDepth 20000 in
theorem m_38 : Cond.initialized R_Ma ∈ WL := List.mem_filter.mpr ⟨List.mem_of_getElem? (i := 38) rfl, rfl⟩
set_option maxRecDepth 20000 in
theorem m_39 : Cond.initialized "java/lang/System" ∈ WL := List.mem_filter.mpr ⟨List.mem_of_getElem? (i := 39) rfl, rfl⟩
set_option maxRecDepth 20000 in
theorem m_40 : Cond.initialized R_In ∈ WL := List.mem_filter.mpr ⟨List.mem_of_getElem? (i := 40) rfl, rfl⟩
set_option maxRecDepth 20000 in
theorem m_41 : Cond.classLink R_La 8 R_Cc ∈ WL := List.mem_filter.mpr ⟨List.mem_of_getElem? (i := 41) rfl, rfl⟩
set_option maxRecDepth 20000 in
theorem m_42 : Cond.instantiable R_Cc 7 ∈ WL := List.mem_filter.mpr ⟨List.mem_of_getElem? (i := 42) rfl, rfl⟩
set_option maxRecDepth 20000 in
theorem m_43 : Cond.methodLink R_La 90 y_Cc_init ∈ WL := List.mem_filter.mpr ⟨List.mem_of_getElem? (i := 43) rfl, rfl⟩
set_option maxRecDepth 20000 in
theorem m_44 : Cond.instanceMethod y_Cc_init ∈ WL := List.mem_filter.mpr ⟨List.mem_of_getElem? (i := 44) rfl, rfl⟩
set_option maxRecDepth 20000 in
theorem m_45 : Cond.code y_Cc_init b_Cc_init 1 (Option.none : Option Jvm.ClassFile.FieldType) ∈ WL := List.mem_filter.mpr ⟨List.mem_of_getElem? (i := 45) rfl, rfl⟩
set_option maxRecDepth 20000 in
theorem m_46 : Cond.methodLink R_Cc 1 ⟨"java/lang/Object", "<init>", "()V"⟩ ∈ WL := List.mem_filter.mpr ⟨List.mem_of_getElem? (i := 46) rfl, rfl⟩
set_option maxRecDepth 20000 in
theorem m_47 : Cond.instanceMethod ⟨"java/lang/Object", "<init>", "()V"⟩ ∈ WL := List.mem_filter.mpr ⟨List.mem_of_getElem? (i := 47) rfl, rfl⟩
set_option maxRecDepth 20000 in
theorem m_49 : Cond.classLink R_Cc 7 R_Go ∈ WL := List.mem_filter.mpr ⟨List.mem_of_getElem? (i := 49) rfl, rfl⟩
set_option maxRecDepth 20000 in
theorem m_50 : Cond.instantiable R_Go 6 ∈ WL := List.mem_filter.mpr ⟨List.mem_of_getElem? (i := 50) rfl, rfl⟩
set_option maxRecDepth 20000 in
theorem m_51 : Cond.methodLink R_Cc 9 y_Go_init ∈ WL := List.mem_filter.mpr ⟨List.mem_of_getElem? (i := 51) rfl, rfl⟩
set_option maxRecDepth 20000 in
theorem m_52 : Cond.instanceMethod y_Go_init ∈ WL := List.mem_filter.mpr ⟨List.mem_of_getElem? (i := 52) rfl, rfl⟩
set_option maxRecDepth 20000 in
theorem m_53 : Cond.code y_Go_init b_Go_init 1 (Option.none : Option Jvm.ClassFile.FieldType) ∈ WL := List.mem_filter.mpr ⟨List.mem_of_getElem? (i := 53) rfl, rfl⟩
set_option maxRecDepth 20000 in
theorem m_54 : Cond.methodLink R_Go 3 ⟨"java/lang/Object", "<init>", "()V"⟩ ∈ WL := List.mem_filter.mpr ⟨List.mem_of_getElem? (i := 54) rfl, rfl⟩
set_option maxRecDepth 20000 in
theorem m_55 : Cond.fieldLink R_Go 9 R_Go "sizes" "[I" ∈ WL := List.mem_filter.mpr ⟨List.mem_of_getElem? (i := 55) rfl, rfl⟩
set_option maxRecDepth 20000 in
theorem m_57 : Cond.fieldLink R_Go 15 R_Go "grams" "[I" ∈ WL := List.mem_filter.mpr ⟨List.mem_of_getElem? (i := 57) rfl, rfl⟩
set_option maxRecDepth 20000 in
theorem m_58 : Cond.fieldLink R_Go 18 R_Go "weakSides" "[I" ∈ WL := List.mem_filter.mpr ⟨List.mem_of_getElem? (i := 58) rfl, rfl⟩
set_option maxRecDepth 20000 in
theorem m_59 : Cond.fieldLink R_Go 21 R_Go "cratesOfSet" "[I" ∈ WL := List.mem_filter.mpr ⟨List.mem_of_getElem? (i := 59) rfl, rfl⟩
set_option maxRecDepth 20000 in
theorem m_60 : Cond.fieldLink R_Go 24 R_Go "loadOfSet" "[I" ∈ WL := List.mem_filter.mpr ⟨List.mem_of_getElem? (i := 60) rfl, rfl⟩
set_option maxRecDepth 20000 in
theorem m_61 : Cond.fieldLink R_Go 27 R_Go "count" "I" ∈ WL := List.mem_filter.mpr ⟨List.mem_of_getElem? (i := 61) rfl, rfl⟩
set_option maxRecDepth 20000 in
theorem m_77 : Cond.arrayClass FieldType.int ∈ WL := List.mem_filter.mpr ⟨List.mem_of_getElem? (i := 77) rfl, rfl⟩
set_option maxRecDepth 20000 in
theorem m_78 : Cond.classLink R_Cc 16 R_Fo ∈ WL := List.mem_filter.mpr ⟨List.mem_of_getElem? (i := 78) rfl, rfl⟩
set_option maxRecDepth 20000 in
theorem m_79 : Cond.instantiable R_Fo 5 ∈ WL := List.mem_filter.mpr ⟨List.mem_of_getElem? (i := 79) rfl, rfl⟩
set_option maxRecDepth 20000 in
theorem m_80 : Cond.methodLink R_Cc 18 y_Fo_init ∈ WL := List.mem_filter.mpr ⟨List.mem_of_getElem? (i := 80) rfl, rfl⟩
set_option maxRecDepth 20000 in
theorem m_81 : Cond.instanceMethod y_Fo_init ∈ WL := List.mem_filter.mpr ⟨List.mem_of_getElem? (i := 81) rfl, rfl⟩
set_option maxRecDepth 20000 in
theorem m_82 : Cond.code y_Fo_init b_Fo_init 1 (Option.none : Option Jvm.ClassFile.FieldType) ∈ WL := List.mem_filter.mpr ⟨List.mem_of_getElem? (i := 82) rfl, rfl⟩
set_option maxRecDepth 20000 in
theorem m_83 : Cond.methodLink R_Fo 3 ⟨"java/lang/Object", "<init>", "()V"⟩ ∈ WL := List.mem_filter.mpr ⟨List.mem_of_getElem? (i := 83) rfl, rfl⟩
set_option maxRecDepth 20000 in
theorem m_84 : Cond.fieldLink R_Fo 9 R_Fo "rowCount" "[I" ∈ WL := List.mem_filter.mpr ⟨List.mem_of_getElem? (i := 84) rfl, rfl⟩
set_option maxRecDepth 20000 in
theorem m_85 : Cond.fieldLink R_Fo 15 R_Fo "thicknessOf" "[I" ∈ WL := List.mem_filter.mpr ⟨List.mem_of_getElem? (i := 85) rfl, rfl⟩
set_option maxRecDepth 20000 in
theorem m_86 : Cond.fieldLink R_Fo 18 R_Fo "pointCount" "[I" ∈ WL := List.mem_filter.mpr ⟨List.mem_of_getElem? (i := 86) rfl, rfl⟩
set_option maxRecDepth 20000 in
theorem m_87 : Cond.fieldLink R_Fo 21 R_Fo "stressOf" "[I" ∈ WL := List.mem_filter.mpr ⟨List.mem_of_getElem? (i := 87) rfl, rfl⟩
set_option maxRecDepth 20000 in
theorem m_88 : Cond.fieldLink R_Fo 24 R_Fo "valueOf" "[I" ∈ WL := List.mem_filter.mpr ⟨List.mem_of_getElem? (i := 88) rfl, rfl⟩
set_option maxRecDepth 20000 in
theorem m_100 : Cond.classLink R_Cc 23 R_Pk ∈ WL := List.mem_filter.mpr ⟨List.mem_of_getElem? (i := 100) rfl, rfl⟩
set_option maxRecDepth 20000 in
theorem m_101 : Cond.instantiable R_Pk 8 ∈ WL := List.mem_filter.mpr ⟨List.mem_of_getElem? (i := 101) rfl, rfl⟩
set_option maxRecDepth 20000 in
theorem m_102 : Cond.methodLink R_Cc 25 y_Pk_init ∈ WL := List.mem_filter.mpr ⟨List.mem_of_getElem? (i := 102) rfl, rfl⟩
set_option maxRecDepth 20000 in
theorem m_103 : Cond.instanceMethod y_Pk_init ∈ WL := List.mem_filter.mpr ⟨List.mem_of_getElem? (i := 103) rfl, rfl⟩
set_option maxRecDepth 20000 in
theorem m_104 : Cond.code y_Pk_init b_Pk_init 1 (Option.none : Option Jvm.ClassFile.FieldType) ∈ WL := List.mem_filter.mpr ⟨List.mem_of_getElem? (i := 104) rfl, rfl⟩
set_option maxRecDepth 20000 in
theorem m_105 : Cond.methodLink R_Pk 3 ⟨"java/lang/Object", "<init>", "()V"⟩ ∈ WL := List.mem_filter.mpr ⟨List.mem_of_getElem? (i := 105) rfl, rfl⟩
set_option maxRecDepth 20000 in
theorem m_106 : Cond.fieldLink R_Pk 9 R_Pk "sizes" "[I" ∈ WL := List.mem_filter.mpr ⟨List.mem_of_getElem? (i := 106) rfl, rfl⟩
set_option maxRecDepth 20000 in
theorem m_107 : Cond.fieldLink R_Pk 15 R_Pk "wayOf" "[I" ∈ WL := List.mem_filter.mpr ⟨List.mem_of_getElem? (i := 107) rfl, rfl⟩
set_option maxRecDepth 20000 in
theorem m_108 : Cond.fieldLink R_Pk 18 R_Pk "startOf" "[I" ∈ WL := List.mem_filter.mpr ⟨List.mem_of_getElem? (i := 108) rfl, rfl⟩
set_option maxRecDepth 20000 in
theorem m_109 : Cond.fieldLink R_Pk 21 R_Pk "triedWay" "[I" ∈ WL := List.mem_filter.mpr ⟨List.mem_of_getElem? (i := 109) rfl, rfl⟩
set_option maxRecDepth 20000 in
theorem m_110 : Cond.fieldLink R_Pk 24 R_Pk "packed" "Z" ∈ WL := List.mem_filter.mpr ⟨List.mem_of_getElem? (i := 110) rfl, rfl⟩
set_option maxRecDepth 20000 in
theorem m_111 : Cond.fieldLink R_Pk 58 R_Pk "members" "I" ∈ WL := List.mem_filter.mpr ⟨List.mem_of_getElem? (i := 111) rfl, rfl⟩
set_option maxRecDepth 20000 in
theorem m_112 : Cond.fieldLink R_Pk 61 R_Pk "gap" "I" ∈ WL := List.mem_filter.mpr ⟨List.mem_of_getElem? (i := 112) rfl, rfl⟩
set_option maxRecDepth 20000 in
theorem m_113 : Cond.fieldLink R_Pk 95 R_Pk "leastProduct" "J" ∈ WL := List.mem_filter.mpr ⟨List.mem_of_getElem? (i := 113) rfl, rfl⟩
set_option maxRecDepth 20000 in
theorem m_131 : Cond.classLink R_Cc 30 R_Sk ∈ WL := List.mem_filter.mpr ⟨List.mem_of_getElem? (i := 131) rfl, rfl⟩
set_option maxRecDepth 20000 in
theorem m_132 : Cond.instantiable R_Sk 5 ∈ WL := List.mem_filter.mpr ⟨List.mem_of_getElem? (i := 132) rfl, rfl⟩
set_option maxRecDepth 20000 in
theorem m_133 : Cond.methodLink R_Cc 32 y_Sk_init ∈ WL := List.mem_filter.mpr ⟨List.mem_of_getElem? (i := 133) rfl, rfl⟩
set_option maxRecDepth 20000 in
theorem m_134 : Cond.instanceMethod y_Sk_init ∈ WL := List.mem_filter.mpr ⟨List.mem_of_getElem? (i := 134) rfl, rfl⟩
set_option maxRecDepth 20000 in
theorem m_135 : Cond.code y_Sk_init b_Sk_init 1 (Option.none : Option Jvm.ClassFile.FieldType) ∈ WL := List.mem_filter.mpr ⟨List.mem_of_getElem? (i := 135) rfl, rfl⟩
set_option maxRecDepth 20000 in
theorem m_136 : Cond.methodLink R_Sk 3 ⟨"java/lang/Object", "<init>", "()V"⟩ ∈ WL := List.mem_filter.mpr ⟨List.mem_of_getElem? (i := 136) rfl, rfl⟩
set_option maxRecDepth 20000 in
theorem m_137 : Cond.fieldLink R_Sk 9 R_Sk "lengthOf" "[I" ∈ WL := List.mem_filter.mpr ⟨List.mem_of_getElem? (i := 137) rfl, rfl⟩
set_option maxRecDepth 20000 in
theorem m_138 : Cond.fieldLink R_Sk 15 R_Sk "widthOf" "[I" ∈ WL := List.mem_filter.mpr ⟨List.mem_of_getElem? (i := 138) rfl, rfl⟩
set_option maxRecDepth 20000 in
theorem m_139 : Cond.fieldLink R_Sk 18 R_Sk "heightOf" "[I" ∈ WL := List.mem_filter.mpr ⟨List.mem_of_getElem? (i := 139) rfl, rfl⟩
set_option maxRecDepth 20000 in
theorem m_140 : Cond.fieldLink R_Sk 21 R_Sk "taken" "[Z" ∈ WL := List.mem_filter.mpr ⟨List.mem_of_getElem? (i := 140) rfl, rfl⟩
set_option maxRecDepth 20000 in
theorem m_141 : Cond.fieldLink R_Sk 25 R_Sk "count" "I" ∈ WL := List.mem_filter.mpr ⟨List.mem_of_getElem? (i := 141) rfl, rfl⟩
set_option maxRecDepth 20000 in
theorem m_154 : Cond.arrayClass FieldType.boolean ∈ WL := List.mem_filter.mpr ⟨List.mem_of_getElem? (i := 154) rfl, rfl⟩
set_option maxRecDepth 20000 in
theorem m_155 : Cond.classLink R_Cc 37 R_Ai ∈ WL := List.mem_filter.mpr ⟨List.mem_of_getElem? (i := 155) rfl, rfl⟩
set_option maxRecDepth 20000 in
theorem m_156 : Cond.instantiable R_Ai 3 ∈ WL := List.mem_filter.mpr ⟨List.mem_of_getElem? (i := 156) rfl, rfl⟩
set_option maxRecDepth 20000 in
theorem m_157 : Cond.methodLink R_Cc 39 y_Ai_init ∈ WL := List.mem_filter.mpr ⟨List.mem_of_getElem? (i := 157) rfl, rfl⟩
set_option maxRecDepth 20000 in
theorem m_158 : Cond.instanceMethod y_Ai_init ∈ WL := List.mem_filter.mpr ⟨List.mem_of_getElem? (i := 158) rfl, rfl⟩
set_option maxRecDepth 20000 in
theorem m_159 : Cond.code y_Ai_init b_Ai_init 1 (Option.none : Option Jvm.ClassFile.FieldType) ∈ WL := List.mem_filter.mpr ⟨List.mem_of_getElem? (i := 159) rfl, rfl⟩
set_option maxRecDepth 20000 in
theorem m_160 : Cond.methodLink R_Ai 3 ⟨"java/lang/Object", "<init>", "()V"⟩ ∈ WL := List.mem_filter.mpr ⟨List.mem_of_getElem? (i := 160) rfl, rfl⟩
set_option maxRecDepth 20000 in
theorem m_161 : Cond.fieldLink R_Ai 9 R_Ai "insideAfter" "[I" ∈ WL := List.mem_filter.mpr ⟨List.mem_of_getElem? (i := 161) rfl, rfl⟩
set_option maxRecDepth 20000 in
theorem m_162 : Cond.fieldLink R_Ai 15 R_Ai "hours" "I" ∈ WL := List.mem_filter.mpr ⟨List.mem_of_getElem? (i := 162) rfl, rfl⟩
set_option maxRecDepth 20000 in
theorem m_164 : Cond.fieldLink R_Ai 19 R_Ai "lagHours" "I" ∈ WL := List.mem_filter.mpr ⟨List.mem_of_getElem? (i := 164) rfl, rfl⟩
set_option maxRecDepth 20000 in
theorem m_172 : Cond.classLink R_Cc 44 R_Sh ∈ WL := List.mem_filter.mpr ⟨List.mem_of_getElem? (i := 172) rfl, rfl⟩
set_option maxRecDepth 20000 in
theorem m_173 : Cond.instantiable R_Sh 4 ∈ WL := List.mem_filter.mpr ⟨List.mem_of_getElem? (i := 173) rfl, rfl⟩
set_option maxRecDepth 20000 in
theorem m_174 : Cond.methodLink R_Cc 46 y_Sh_init ∈ WL := List.mem_filter.mpr ⟨List.mem_of_getElem? (i := 174) rfl, rfl⟩
set_option maxRecDepth 20000 in
theorem m_175 : Cond.instanceMethod y_Sh_init ∈ WL := List.mem_filter.mpr ⟨List.mem_of_getElem? (i := 175) rfl, rfl⟩
set_option maxRecDepth 20000 in
theorem m_176 : Cond.code y_Sh_init b_Sh_init 1 (Option.none : Option Jvm.ClassFile.FieldType) ∈ WL := List.mem_filter.mpr ⟨List.mem_of_getElem? (i := 176) rfl, rfl⟩
set_option maxRecDepth 20000 in
theorem m_177 : Cond.methodLink R_Sh 3 ⟨"java/lang/Object", "<init>", "()V"⟩ ∈ WL := List.mem_filter.mpr ⟨List.mem_of_getElem? (i := 177) rfl, rfl⟩
set_option maxRecDepth 20000 in
theorem m_178 : Cond.fieldLink R_Sh 9 R_Sh "peak" "I" ∈ WL := List.mem_filter.mpr ⟨List.mem_of_getElem? (i := 178) rfl, rfl⟩
set_option maxRecDepth 20000 in
theorem m_179 : Cond.fieldLink R_Sh 15 R_Sh "longest" "I" ∈ WL := List.mem_filter.mpr ⟨List.mem_of_getElem? (i := 179) rfl, rfl⟩
set_option maxRecDepth 20000 in
theorem m_180 : Cond.fieldLink R_Sh 18 R_Sh "count" "I" ∈ WL := List.mem_filter.mpr ⟨List.mem_of_getElem? (i := 180) rfl, rfl⟩
set_option maxRecDepth 20000 in
theorem m_182 : Cond.fieldLink R_Sh 21 R_Sh "toldCount" "I" ∈ WL := List.mem_filter.mpr ⟨List.mem_of_getElem? (i := 182) rfl, rfl⟩
set_option maxRecDepth 20000 in
theorem m_193 : Cond.classLink R_Cc 51 R_Jo ∈ WL := List.mem_filter.mpr ⟨List.mem_of_getElem? (i := 193) rfl, rfl⟩
set_option maxRecDepth 20000 in
theorem m_194 : Cond.instantiable R_Jo 2 ∈ WL := List.mem_filter.mpr ⟨List.mem_of_getElem? (i := 194) rfl, rfl⟩
set_option maxRecDepth 20000 in
theorem m_195 : Cond.methodLink R_Cc 53 y_Jo_init ∈ WL := List.mem_filter.mpr ⟨List.mem_of_getElem? (i := 195) rfl, rfl⟩
set_option maxRecDepth 20000 in
theorem m_196 : Cond.instanceMethod y_Jo_init ∈ WL := List.mem_filter.mpr ⟨List.mem_of_getElem? (i := 196) rfl, rfl⟩
set_option maxRecDepth 20000 in
theorem m_197 : Cond.code y_Jo_init b_Jo_init 1 (Option.none : Option Jvm.ClassFile.FieldType) ∈ WL := List.mem_filter.mpr ⟨List.mem_of_getElem? (i := 197) rfl, rfl⟩
set_option maxRecDepth 20000 in
theorem m_198 : Cond.methodLink R_Jo 3 ⟨"java/lang/Object", "<init>", "()V"⟩ ∈ WL := List.mem_filter.mpr ⟨List.mem_of_getElem? (i := 198) rfl, rfl⟩
set_option maxRecDepth 20000 in
theorem m_199 : Cond.fieldLink R_Jo 9 R_Jo "drops" "[I" ∈ WL := List.mem_filter.mpr ⟨List.mem_of_getElem? (i := 199) rfl, rfl⟩
set_option maxRecDepth 20000 in
theorem m_200 : Cond.fieldLink R_Jo 15 R_Jo "legCount" "I" ∈ WL := List.mem_filter.mpr ⟨List.mem_of_getElem? (i := 200) rfl, rfl⟩
set_option maxRecDepth 20000 in
theorem m_206 : Cond.fieldLink R_Cc 10 R_Cc "goods" "LCrateCushions$Goods;" ∈ WL := List.mem_filter.mpr ⟨List.mem_of_getElem? (i := 206) rfl, rfl⟩
set_option maxRecDepth 20000 in
theorem m_207 : Cond.fieldLink R_Cc 19 R_Cc "foams" "LCrateCushions$Foams;" ∈ WL := List.mem_filter.mpr ⟨List.mem_of_getElem? (i := 207) rfl, rfl⟩
set_option maxRecDepth 20000 in
theorem m_208 : Cond.fieldLink R_Cc 26 R_Cc "packing" "LCrateCushions$Packing;" ∈ WL := List.mem_filter.mpr ⟨List.mem_of_getElem? (i := 208) rfl, rfl⟩
set_option maxRecDepth 20000 in
theorem m_209 : Cond.fieldLink R_Cc 33 R_Cc "stock" "LCrateCushions$Stock;" ∈ WL := List.mem_filter.mpr ⟨List.mem_of_getElem? (i := 209) rfl, rfl⟩
set_option maxRecDepth 20000 in
theorem m_210 : Cond.fieldLink R_Cc 40 R_Cc "air" "LCrateCushions$Air;" ∈ WL := List.mem_filter.mpr ⟨List.mem_of_getElem? (i := 210) rfl, rfl⟩
set_option maxRecDepth 20000 in
theorem m_211 : Cond.fieldLink R_Cc 47 R_Cc "shocks" "LCrateCushions$Shocks;" ∈ WL := List.mem_filter.mpr ⟨List.mem_of_getElem? (i := 211) rfl, rfl⟩
set_option maxRecDepth 20000 in
theorem m_212 : Cond.fieldLink R_Cc 54 R_Cc "journey" "LCrateCushions$Journey;" ∈ WL := List.mem_filter.mpr ⟨List.mem_of_getElem? (i := 212) rfl, rfl⟩
set_option maxRecDepth 20000 in
theorem m_228 : Cond.methodLink R_La 94 y_La_object ∈ WL := List.mem_filter.mpr ⟨List.mem_of_getElem? (i := 228) rfl, rfl⟩
set_option maxRecDepth 20000 in
theorem m_229 : Cond.static y_La_object ∈ WL := List.mem_filter.mpr ⟨List.mem_of_getElem? (i := 229) rfl, rfl⟩
set_option maxRecDepth 20000 in
theorem m_231 : Cond.classLink R_La 13 "java/lang/IllegalStateException" ∈ WL := List.mem_filter.mpr ⟨List.mem_of_getElem? (i := 231) rfl, rfl⟩
set_option maxRecDepth 20000 in
theorem m_232 : Cond.classLink R_La 15 "java/lang/IllegalArgumentException" ∈ WL := List.mem_filter.mpr ⟨List.mem_of_getElem? (i := 232) rfl, rfl⟩
set_option maxRecDepth 20000 in
theorem m_233 : Cond.methodLink R_La 7 y_Cc_object ∈ WL := List.mem_filter.mpr ⟨List.mem_of_getElem? (i := 233) rfl, rfl⟩
set_option maxRecDepth 20000 in
theorem m_234 : Cond.instanceMethod y_Cc_object ∈ WL := List.mem_filter.mpr ⟨List.mem_of_getElem? (i := 234) rfl, rfl⟩
set_option maxRecDepth 20000 in
theorem m_235 : Cond.selects R_Cc y_Cc_object y_Cc_object ∈ WL := List.mem_filter.mpr ⟨List.mem_of_getElem? (i := 235) rfl, rfl⟩
set_option maxRecDepth 20000 in
theorem m_236 : Cond.code y_Cc_object b_Cc_object 5 (some .int) ∈ WL := List.mem_filter.mpr ⟨List.mem_of_getElem? (i := 236) rfl, rfl⟩
set_option maxRecDepth 20000 in
theorem m_237 : Cond.methodLink R_Cc 58 y_Go_add ∈ WL := List.mem_filter.mpr ⟨List.mem_of_getElem? (i := 237) rfl, rfl⟩
set_option maxRecDepth 20000 in
theorem m_238 : Cond.instanceMethod y_Go_add ∈ WL := List.mem_filter.mpr ⟨List.mem_of_getElem? (i := 238) rfl, rfl⟩
set_option maxRecDepth 20000 in
theorem m_239 : Cond.selects R_Go y_Go_add y_Go_add ∈ WL := List.mem_filter.mpr ⟨List.mem_of_getElem? (i := 239) rfl, rfl⟩
set_option maxRecDepth 20000 in
theorem m_240 : Cond.code y_Go_add b_Go_add 6 (some .int) ∈ WL := List.mem_filter.mpr ⟨List.mem_of_getElem? (i := 240) rfl, rfl⟩
set_option maxRecDepth 20000 in
theorem m_242 : Cond.static y_Cc_requireRoom ∈ WL := List.mem_filter.mpr ⟨List.mem_of_getElem? (i := 242) rfl, rfl⟩
set_option maxRecDepth 20000 in
theorem m_243 : Cond.code y_Cc_requireRoom b_Cc_requireRoom 2 (Option.none : Option Jvm.ClassFile.FieldType) ∈ WL := List.mem_filter.mpr ⟨List.mem_of_getElem? (i := 243) rfl, rfl⟩
set_option maxRecDepth 20000 in
theorem m_244 : Cond.classLink R_Cc 161 "java/lang/IllegalStateException" ∈ WL := List.mem_filter.mpr ⟨List.mem_of_getElem? (i := 244) rfl, rfl⟩
set_option maxRecDepth 20000 in
theorem m_245 : Cond.instantiable "java/lang/IllegalStateException" 6 ∈ WL := List.mem_filter.mpr ⟨List.mem_of_getElem? (i := 245) rfl, rfl⟩
set_option maxRecDepth 20000 in
theorem m_253 : Cond.selects "java/lang/IllegalStateException" ⟨"java/lang/Throwable", "fillInStackTrace", "(I)Ljava/lang/Throwable;"⟩ ⟨"java/lang/Throwable", "fillInStackTrace", "(I)Ljava/lang/Throwable;"⟩ ∈ WL := List.mem_filter.mpr ⟨List.mem_of_getElem? (i := 253) rfl, rfl⟩
set_option maxRecDepth 20000 in
theorem m_254 : Cond.selects "java/lang/IllegalStateException" ⟨"java/lang/Throwable", "fillInStackTrace", "()Ljava/lang/Throwable;"⟩ ⟨"java/lang/Throwable", "fillInStackTrace", "()Ljava/lang/Throwable;"⟩ ∈ WL := List.mem_filter.mpr ⟨List.mem_of_getElem? (i := 254) rfl, rfl⟩
set_option maxRecDepth 20000 in
theorem m_265 : Cond.fieldLink "java/lang/Throwable" 198 "java/lang/Throwable" "backtrace" "Ljava/lang/Object;" ∈ WL := List.mem_filter.mpr ⟨List.mem_of_getElem? (i := 265) rfl, rfl⟩
set_option maxRecDepth 20000 in
theorem m_267 : Cond.instanceMethod ⟨"java/lang/Throwable", "<init>", "()V"⟩ ∈ WL := List.mem_filter.mpr ⟨List.mem_of_getElem? (i := 267) rfl, rfl⟩
set_option maxRecDepth 20000 in
theorem m_269 : Cond.methodLink "java/lang/Throwable" 1 ⟨"java/lang/Object", "<init>", "()V"⟩ ∈ WL := List.mem_filter.mpr ⟨List.mem_of_getElem? (i := 269) rfl, rfl⟩
set_option maxRecDepth 20000 in
theorem m_270 : Cond.fieldLink "java/lang/Throwable" 13 "java/lang/Throwable" "UNASSIGNED_STACK" "[Ljava/lang/StackTraceElement;" ∈ WL := List.mem_filter.mpr ⟨List.mem_of_getElem? (i := 270) rfl, rfl⟩
set_option maxRecDepth 20000 in
theorem m_272 : Cond.fieldLink "java/lang/Throwable" 20 "java/lang/Throwable" "SUPPRESSED_SENTINEL" "Ljava/util/List;" ∈ WL := List.mem_filter.mpr ⟨List.mem_of_getElem? (i := 272) rfl, rfl⟩
set_option maxRecDepth 20000 in
theorem m_274 : Cond.methodLink "java/lang/Throwable" 27 ⟨"java/lang/Throwable", "fillInStackTrace", "()Ljava/lang/Throwable;"⟩ ∈ WL := List.mem_filter.mpr ⟨List.mem_of_getElem? (i := 274) rfl, rfl⟩
set_option maxRecDepth 20000 in
theorem m_275 : Cond.instanceMethod ⟨"java/lang/Throwable", "fillInStackTrace", "()Ljava/lang/Throwable;"⟩ ∈ WL := List.mem_filter.mpr ⟨List.mem_of_getElem? (i := 275) rfl, rfl⟩
set_option maxRecDepth 20000 in
theorem m_277 : Cond.selects "java/lang/IllegalArgumentException" ⟨"java/lang/Throwable", "fillInStackTrace", "()Ljava/lang/Throwable;"⟩ ⟨"java/lang/Throwable", "fillInStackTrace", "()Ljava/lang/Throwable;"⟩ ∈ WL := List.mem_filter.mpr ⟨List.mem_of_getElem? (i := 277) rfl, rfl⟩
set_option maxRecDepth 20000 in
theorem m_278 : Cond.selects "java/lang/IndexOutOfBoundsException" ⟨"java/lang/Throwable", "fillInStackTrace", "()Ljava/lang/Throwable;"⟩ ⟨"java/lang/Throwable", "fillInStackTrace", "()Ljava/lang/Throwable;"⟩ ∈ WL := List.mem_filter.mpr ⟨List.mem_of_getElem? (i := 278) rfl, rfl⟩
set_option maxRecDepth 20000 in
theorem m_280 : Cond.methodLink "java/lang/Throwable" 202 ⟨"java/lang/Throwable", "fillInStackTrace", "(I)Ljava/lang/Throwable;"⟩ ∈ WL := List.mem_filter.mpr ⟨List.mem_of_getElem? (i := 280) rfl, rfl⟩
set_option maxRecDepth 20000 in
theorem m_282 : Cond.instanceMethod ⟨"java/lang/Throwable", "fillInStackTrace", "(I)Ljava/lang/Throwable;"⟩ ∈ WL := List.mem_filter.mpr ⟨List.mem_of_getElem? (i := 282) rfl, rfl⟩
set_option maxRecDepth 20000 in
theorem m_283 : Cond.instantiable "java/lang/Throwable" 6 ∈ WL := List.mem_filter.mpr ⟨List.mem_of_getElem? (i := 283) rfl, rfl⟩
set_option maxRecDepth 20000 in
theorem m_284 : Cond.native ⟨"java/lang/Throwable", "fillInStackTrace", "(I)Ljava/lang/Throwable;"⟩ ∈ WL := List.mem_filter.mpr ⟨List.mem_of_getElem? (i := 284) rfl, rfl⟩
set_option maxRecDepth 20000 in
theorem m_286 : Cond.methodLink R_Cc 165 ⟨"java/lang/IllegalStateException", "<init>", "(Ljava/lang/String;)V"⟩ ∈ WL := List.mem_filter.mpr ⟨List.mem_of_getElem? (i := 286) rfl, rfl⟩
set_option maxRecDepth 20000 in
theorem m_287 : Cond.instanceMethod ⟨"java/lang/IllegalStateException", "<init>", "(Ljava/lang/String;)V"⟩ ∈ WL := List.mem_filter.mpr ⟨List.mem_of_getElem? (i := 287) rfl, rfl⟩
set_option maxRecDepth 20000 in
theorem m_289 : Cond.methodLink "java/lang/IllegalStateException" 7 ⟨"java/lang/RuntimeException", "<init>", "(Ljava/lang/String;)V"⟩ ∈ WL := List.mem_filter.mpr ⟨List.mem_of_getElem? (i := 289) rfl, rfl⟩
set_option maxRecDepth 20000 in
theorem m_290 : Cond.instanceMethod ⟨"java/lang/RuntimeException", "<init>", "(Ljava/lang/String;)V"⟩ ∈ WL := List.mem_filter.mpr ⟨List.mem_of_getElem? (i := 290) rfl, rfl⟩
set_option maxRecDepth 20000 in
theorem m_292 : Cond.methodLink "java/lang/RuntimeException" 7 ⟨"java/lang/Exception", "<init>", "(Ljava/lang/String;)V"⟩ ∈ WL := List.mem_filter.mpr ⟨List.mem_of_getElem? (i := 292) rfl, rfl⟩
set_option maxRecDepth 20000 in
theorem m_293 : Cond.instanceMethod ⟨"java/lang/Exception", "<init>", "(Ljava/lang/String;)V"⟩ ∈ WL := List.mem_filter.mpr ⟨List.mem_of_getElem? (i := 293) rfl, rfl⟩
set_option maxRecDepth 20000 in
theorem m_295 : Cond.methodLink "java/lang/Exception" 7 ⟨"java/lang/Throwable", "<init>", "(Ljava/lang/String;)V"⟩ ∈ WL := List.mem_filter.mpr ⟨List.mem_of_getElem? (i := 295) rfl, rfl⟩
set_option maxRecDepth 20000 in
theorem m_296 : Cond.instanceMethod ⟨"java/lang/Throwable", "<init>", "(Ljava/lang/String;)V"⟩ ∈ WL := List.mem_filter.mpr ⟨List.mem_of_getElem? (i := 296) rfl, rfl⟩
set_option maxRecDepth 20000 in
theorem m_299 : Cond.fieldLink "java/lang/Throwable" 31 "java/lang/Throwable" "detailMessage" "Ljava/lang/String;" ∈ WL := List.mem_filter.mpr ⟨List.mem_of_getElem? (i := 299) rfl, rfl⟩
set_option maxRecDepth 20000 in
theorem m_300 : Cond.fieldLink "java/lang/Throwable" 7 "java/lang/Throwable" "cause" "Ljava/lang/Throwable;" ∈ WL := List.mem_filter.mpr ⟨List.mem_of_getElem? (i := 300) rfl, rfl⟩
set_option maxRecDepth 20000 in
theorem m_301 : Cond.fieldLink "java/lang/Throwable" 17 "java/lang/Throwable" "stackTrace" "[Ljava/lang/StackTraceElement;" ∈ WL := List.mem_filter.mpr ⟨List.mem_of_getElem? (i := 301) rfl, rfl⟩
set_option maxRecDepth 20000 in
theorem m_302 : Cond.fieldLink "java/lang/Throwable" 24 "java/lang/Throwable" "suppressedExceptions" "Ljava/util/List;" ∈ WL := List.mem_filter.mpr ⟨List.mem_of_getElem? (i := 302) rfl, rfl⟩
set_option maxRecDepth 20000 in
theorem m_311 : Cond.arrayClass FieldType.byte ∈ WL := List.mem_filter.mpr ⟨List.mem_of_getElem? (i := 311) rfl, rfl⟩
set_option maxRecDepth 20000 in
theorem m_313 : Cond.static y_Cc_requireRange ∈ WL := List.mem_filter.mpr ⟨List.mem_of_getElem? (i := 313) rfl, rfl⟩
set_option maxRecDepth 20000 in
theorem m_314 : Cond.code y_Cc_requireRange b_Cc_requireRange 3 (Option.none : Option Jvm.ClassFile.FieldType) ∈ WL := List.mem_filter.mpr ⟨List.mem_of_getElem? (i := 314) rfl, rfl⟩
set_option maxRecDepth 20000 in
theorem m_315 : Cond.classLink R_Cc 156 "java/lang/IllegalArgumentException" ∈ WL := List.mem_filter.mpr ⟨List.mem_of_getElem? (i := 315) rfl, rfl⟩
set_option maxRecDepth 20000 in
theorem m_316 : Cond.instantiable "java/lang/IllegalArgumentException" 6 ∈ WL := List.mem_filter.mpr ⟨List.mem_of_getElem? (i := 316) rfl, rfl⟩
set_option maxRecDepth 20000 in
theorem m_318 : Cond.selects "java/lang/IllegalArgumentException" ⟨"java/lang/Throwable", "fillInStackTrace", "(I)Ljava/lang/Throwable;"⟩ ⟨"java/lang/Throwable", "fillInStackTrace", "(I)Ljava/lang/Throwable;"⟩ ∈ WL := List.mem_filter.mpr ⟨List.mem_of_getElem? (i := 318) rfl, rfl⟩
set_option maxRecDepth 20000 in
theorem m_325 : Cond.methodLink R_Cc 160 ⟨"java/lang/IllegalArgumentException", "<init>", "(Ljava/lang/String;)V"⟩ ∈ WL := List.mem_filter.mpr ⟨List.mem_of_getElem? (i := 325) rfl, rfl⟩
set_option maxRecDepth 20000 in
theorem m_326 : Cond.instanceMethod ⟨"java/lang/IllegalArgumentException", "<init>", "(Ljava/lang/String;)V"⟩ ∈ WL := List.mem_filter.mpr ⟨List.mem_of_getElem? (i := 326) rfl, rfl⟩
set_option maxRecDepth 20000 in
theorem m_328 : Cond.methodLink "java/lang/IllegalArgumentException" 7 ⟨"java/lang/RuntimeException", "<init>", "(Ljava/lang/String;)V"⟩ ∈ WL := List.mem_filter.mpr ⟨List.mem_of_getElem? (i := 328) rfl, rfl⟩
set_option maxRecDepth 20000 in
theorem m_331 : Cond.constant R_Go 39 100000 ∈ WL := List.mem_filter.mpr ⟨List.mem_of_getElem? (i := 331) rfl, rfl⟩
set_option maxRecDepth 20000 in
theorem m_332 : Cond.methodLink R_La 103 y_La_weak ∈ WL := List.mem_filter.mpr ⟨List.mem_of_getElem? (i := 332) rfl, rfl⟩
set_option maxRecDepth 20000 in
theorem m_333 : Cond.static y_La_weak ∈ WL := List.mem_filter.mpr ⟨List.mem_of_getElem? (i := 333) rfl, rfl⟩
set_option maxRecDepth 20000 in
theorem m_335 : Cond.classLink R_La 21 "java/lang/IndexOutOfBoundsException" ∈ WL := List.mem_filter.mpr ⟨List.mem_of_getElem? (i := 335) rfl, rfl⟩
set_option maxRecDepth 20000 in
theorem m_336 : Cond.methodLink R_La 17 y_Cc_weak ∈ WL := List.mem_filter.mpr ⟨List.mem_of_getElem? (i := 336) rfl, rfl⟩
set_option maxRecDepth 20000 in
theorem m_337 : Cond.instanceMethod y_Cc_weak ∈ WL := List.mem_filter.mpr ⟨List.mem_of_getElem? (i := 337) rfl, rfl⟩
set_option maxRecDepth 20000 in
theorem m_338 : Cond.selects R_Cc y_Cc_weak y_Cc_weak ∈ WL := List.mem_filter.mpr ⟨List.mem_of_getElem? (i := 338) rfl, rfl⟩
set_option maxRecDepth 20000 in
theorem m_339 : Cond.code y_Cc_weak b_Cc_weak 4 (some .boolean) ∈ WL := List.mem_filter.mpr ⟨List.mem_of_getElem? (i := 339) rfl, rfl⟩
set_option maxRecDepth 20000 in
theorem m_340 : Cond.methodLink R_Cc 62 y_Go_setWeak ∈ WL := List.mem_filter.mpr ⟨List.mem_of_getElem? (i := 340) rfl, rfl⟩
set_option maxRecDepth 20000 in
theorem m_341 : Cond.instanceMethod y_Go_setWeak ∈ WL := List.mem_filter.mpr ⟨List.mem_of_getElem? (i := 341) rfl, rfl⟩
set_option maxRecDepth 20000 in
theorem m_342 : Cond.selects R_Go y_Go_setWeak y_Go_setWeak ∈ WL := List.mem_filter.mpr ⟨List.mem_of_getElem? (i := 342) rfl, rfl⟩
set_option maxRecDepth 20000 in
theorem m_343 : Cond.code y_Go_setWeak b_Go_setWeak 6 (some .boolean) ∈ WL := List.mem_filter.mpr ⟨List.mem_of_getElem? (i := 343) rfl, rfl⟩
set_option maxRecDepth 20000 in
theorem m_345 : Cond.static y_Cc_requireIndex ∈ WL := List.mem_filter.mpr ⟨List.mem_of_getElem? (i := 345) rfl, rfl⟩
set_option maxRecDepth 20000 in
theorem m_346 : Cond.code y_Cc_requireIndex b_Cc_requireIndex 2 (Option.none : Option Jvm.ClassFile.FieldType) ∈ WL := List.mem_filter.mpr ⟨List.mem_of_getElem? (i := 346) rfl, rfl⟩
set_option maxRecDepth 20000 in
theorem m_347 : Cond.classLink R_Cc 147 "java/lang/IndexOutOfBoundsException" ∈ WL := List.mem_filter.mpr ⟨List.mem_of_getElem? (i := 347) rfl, rfl⟩
set_option maxRecDepth 20000 in
theorem m_348 : Cond.instantiable "java/lang/IndexOutOfBoundsException" 6 ∈ WL := List.mem_filter.mpr ⟨List.mem_of_getElem? (i := 348) rfl, rfl⟩
set_option maxRecDepth 20000 in
theorem m_350 : Cond.selects "java/lang/IndexOutOfBoundsException" ⟨"java/lang/Throwable", "fillInStackTrace", "(I)Ljava/lang/Throwable;"⟩ ⟨"java/lang/Throwable", "fillInStackTrace", "(I)Ljava/lang/Throwable;"⟩ ∈ WL := List.mem_filter.mpr ⟨List.mem_of_getElem? (i := 350) rfl, rfl⟩
set_option maxRecDepth 20000 in
theorem m_357 : Cond.methodLink R_Cc 151 ⟨"java/lang/IndexOutOfBoundsException", "<init>", "(Ljava/lang/String;)V"⟩ ∈ WL := List.mem_filter.mpr ⟨List.mem_of_getElem? (i := 357) rfl, rfl⟩
set_option maxRecDepth 20000 in
theorem m_358 : Cond.instanceMethod ⟨"java/lang/IndexOutOfBoundsException", "<init>", "(Ljava/lang/String;)V"⟩ ∈ WL := List.mem_filter.mpr ⟨List.mem_of_getElem? (i := 358) rfl, rfl⟩
set_option maxRecDepth 20000 in
theorem m_360 : Cond.methodLink "java/lang/IndexOutOfBoundsException" 7 ⟨"java/lang/RuntimeException", "<init>", "(Ljava/lang/String;)V"⟩ ∈ WL := List.mem_filter.mpr ⟨List.mem_of_getElem? (i := 360) rfl, rfl⟩
set_option maxRecDepth 20000 in
theorem m_363 : Cond.methodLink R_La 107 y_La_foam ∈ WL := List.mem_filter.mpr ⟨List.mem_of_getElem? (i := 363) rfl, rfl⟩
set_option maxRecDepth 20000 in
theorem m_364 : Cond.static y_La_foam ∈ WL := List.mem_filter.mpr ⟨List.mem_of_getElem? (i := 364) rfl, rfl⟩
set_option maxRecDepth 20000 in
theorem m_366 : Cond.methodLink R_La 23 y_Cc_foam ∈ WL := List.mem_filter.mpr ⟨List.mem_of_getElem? (i := 366) rfl, rfl⟩
set_option maxRecDepth 20000 in
theorem m_367 : Cond.instanceMethod y_Cc_foam ∈ WL := List.mem_filter.mpr ⟨List.mem_of_getElem? (i := 367) rfl, rfl⟩
set_option maxRecDepth 20000 in
theorem m_368 : Cond.selects R_Cc y_Cc_foam y_Cc_foam ∈ WL := List.mem_filter.mpr ⟨List.mem_of_getElem? (i := 368) rfl, rfl⟩
set_option maxRecDepth 20000 in
theorem m_369 : Cond.code y_Cc_foam b_Cc_foam 3 (some .int) ∈ WL := List.mem_filter.mpr ⟨List.mem_of_getElem? (i := 369) rfl, rfl⟩
set_option maxRecDepth 20000 in
theorem m_370 : Cond.methodLink R_Cc 66 y_Fo_addRow ∈ WL := List.mem_filter.mpr ⟨List.mem_of_getElem? (i := 370) rfl, rfl⟩
set_option maxRecDepth 20000 in
theorem m_371 : Cond.instanceMethod y_Fo_addRow ∈ WL := List.mem_filter.mpr ⟨List.mem_of_getElem? (i := 371) rfl, rfl⟩
set_option maxRecDepth 20000 in
theorem m_372 : Cond.selects R_Fo y_Fo_addRow y_Fo_addRow ∈ WL := List.mem_filter.mpr ⟨List.mem_of_getElem? (i := 372) rfl, rfl⟩
set_option maxRecDepth 20000 in
theorem m_373 : Cond.code y_Fo_addRow b_Fo_addRow 6 (some .int) ∈ WL := List.mem_filter.mpr ⟨List.mem_of_getElem? (i := 373) rfl, rfl⟩
set_option maxRecDepth 20000 in
theorem m_377 : Cond.methodLink R_La 111 y_La_point ∈ WL := List.mem_filter.mpr ⟨List.mem_of_getElem? (i := 377) rfl, rfl⟩
set_option maxRecDepth 20000 in
theorem m_378 : Cond.static y_La_point ∈ WL := List.mem_filter.mpr ⟨List.mem_of_getElem? (i := 378) rfl, rfl⟩
set_option maxRecDepth 20000 in
theorem m_380 : Cond.methodLink R_La 27 y_Cc_point ∈ WL := List.mem_filter.mpr ⟨List.mem_of_getElem? (i := 380) rfl, rfl⟩
set_option maxRecDepth 20000 in
theorem m_381 : Cond.instanceMethod y_Cc_point ∈ WL := List.mem_filter.mpr ⟨List.mem_of_getElem? (i := 381) rfl, rfl⟩
set_option maxRecDepth 20000 in
theorem m_382 : Cond.selects R_Cc y_Cc_point y_Cc_point ∈ WL := List.mem_filter.mpr ⟨List.mem_of_getElem? (i := 382) rfl, rfl⟩
set_option maxRecDepth 20000 in
theorem m_383 : Cond.code y_Cc_point b_Cc_point 5 (some .int) ∈ WL := List.mem_filter.mpr ⟨List.mem_of_getElem? (i := 383) rfl, rfl⟩
set_option maxRecDepth 20000 in
theorem m_384 : Cond.methodLink R_Cc 70 y_Fo_addPoint ∈ WL := List.mem_filter.mpr ⟨List.mem_of_getElem? (i := 384) rfl, rfl⟩
set_option maxRecDepth 20000 in
theorem m_385 : Cond.instanceMethod y_Fo_addPoint ∈ WL := List.mem_filter.mpr ⟨List.mem_of_getElem? (i := 385) rfl, rfl⟩
set_option maxRecDepth 20000 in
theorem m_386 : Cond.selects R_Fo y_Fo_addPoint y_Fo_addPoint ∈ WL := List.mem_filter.mpr ⟨List.mem_of_getElem? (i := 386) rfl, rfl⟩
set_option maxRecDepth 20000 in
theorem m_387 : Cond.code y_Fo_addPoint b_Fo_addPoint 9 (some .int) ∈ WL := List.mem_filter.mpr ⟨List.mem_of_getElem? (i := 387) rfl, rfl⟩
set_option maxRecDepth 20000 in
theorem m_388 : Cond.methodLink R_Fo 38 y_Fo_placeOf ∈ WL := List.mem_filter.mpr ⟨List.mem_of_getElem? (i := 388) rfl, rfl⟩
set_option maxRecDepth 20000 in
theorem m_390 : Cond.instanceMethod y_Fo_placeOf ∈ WL := List.mem_filter.mpr ⟨List.mem_of_getElem? (i := 390) rfl, rfl⟩
set_option maxRecDepth 20000 in
theorem m_391 : Cond.code y_Fo_placeOf b_Fo_placeOf 3 (some .int) ∈ WL := List.mem_filter.mpr ⟨List.mem_of_getElem? (i := 391) rfl, rfl⟩
set_option maxRecDepth 20000 in
theorem m_392 : Cond.methodLink R_La 114 y_La_value ∈ WL := List.mem_filter.mpr ⟨List.mem_of_getElem? (i := 392) rfl, rfl⟩
set_option maxRecDepth 20000 in
theorem m_393 : Cond.static y_La_value ∈ WL := List.mem_filter.mpr ⟨List.mem_of_getElem? (i := 393) rfl, rfl⟩
set_option maxRecDepth 20000 in
theorem m_395 : Cond.methodLink R_La 30 y_Cc_value ∈ WL := List.mem_filter.mpr ⟨List.mem_of_getElem? (i := 395) rfl, rfl⟩
set_option maxRecDepth 20000 in
theorem m_396 : Cond.instanceMethod y_Cc_value ∈ WL := List.mem_filter.mpr ⟨List.mem_of_getElem? (i := 396) rfl, rfl⟩
set_option maxRecDepth 20000 in
theorem m_397 : Cond.selects R_Cc y_Cc_value y_Cc_value ∈ WL := List.mem_filter.mpr ⟨List.mem_of_getElem? (i := 397) rfl, rfl⟩
set_option maxRecDepth 20000 in
theorem m_398 : Cond.code y_Cc_value b_Cc_value 4 (some .int) ∈ WL := List.mem_filter.mpr ⟨List.mem_of_getElem? (i := 398) rfl, rfl⟩
set_option maxRecDepth 20000 in
theorem m_399 : Cond.methodLink R_Cc 73 y_Fo_valueAt ∈ WL := List.mem_filter.mpr ⟨List.mem_of_getElem? (i := 399) rfl, rfl⟩
set_option maxRecDepth 20000 in
theorem m_400 : Cond.instanceMethod y_Fo_valueAt ∈ WL := List.mem_filter.mpr ⟨List.mem_of_getElem? (i := 400) rfl, rfl⟩
set_option maxRecDepth 20000 in
theorem m_401 : Cond.selects R_Fo y_Fo_valueAt y_Fo_valueAt ∈ WL := List.mem_filter.mpr ⟨List.mem_of_getElem? (i := 401) rfl, rfl⟩
set_option maxRecDepth 20000 in
theorem m_402 : Cond.code y_Fo_valueAt b_Fo_valueAt 8 (some .int) ∈ WL := List.mem_filter.mpr ⟨List.mem_of_getElem? (i := 402) rfl, rfl⟩
set_option maxRecDepth 20000 in
theorem m_403 : Cond.methodLink R_Fo 42 y_Fo_valueBetween ∈ WL := List.mem_filter.mpr ⟨List.mem_of_getElem? (i := 403) rfl, rfl⟩
set_option maxRecDepth 20000 in
theorem m_405 : Cond.instanceMethod y_Fo_valueBetween ∈ WL := List.mem_filter.mpr ⟨List.mem_of_getElem? (i := 405) rfl, rfl⟩
set_option maxRecDepth 20000 in
theorem m_406 : Cond.code y_Fo_valueBetween b_Fo_valueBetween 6 (some .int) ∈ WL := List.mem_filter.mpr ⟨List.mem_of_getElem? (i := 406) rfl, rfl⟩
set_option maxRecDepth 20000 in
theorem m_407 : Cond.methodLink R_Fo 49 y_Ma_floorDiv ∈ WL := List.mem_filter.mpr ⟨List.mem_of_getElem? (i := 407) rfl, rfl⟩
set_option maxRecDepth 20000 in
theorem m_408 : Cond.static y_Ma_floorDiv ∈ WL := List.mem_filter.mpr ⟨List.mem_of_getElem? (i := 408) rfl, rfl⟩
set_option maxRecDepth 20000 in
theorem m_409 : Cond.code y_Ma_floorDiv b_Ma_floorDiv 3 (some .int) ∈ WL := List.mem_filter.mpr ⟨List.mem_of_getElem? (i := 409) rfl, rfl⟩
set_option maxRecDepth 20000 in
theorem m_410 : Cond.methodLink R_La 118 y_La_thickness ∈ WL := List.mem_filter.mpr ⟨List.mem_of_getElem? (i := 410) rfl, rfl⟩
set_option maxRecDepth 20000 in
theorem m_411 : Cond.static y_La_thickness ∈ WL := List.mem_filter.mpr ⟨List.mem_of_getElem? (i := 411) rfl, rfl⟩
set_option maxRecDepth 20000 in
theorem m_413 : Cond.methodLink R_La 34 y_Cc_thickness ∈ WL := List.mem_filter.mpr ⟨List.mem_of_getElem? (i := 413) rfl, rfl⟩
set_option maxRecDepth 20000 in
theorem m_414 : Cond.instanceMethod y_Cc_thickness ∈ WL := List.mem_filter.mpr ⟨List.mem_of_getElem? (i := 414) rfl, rfl⟩
set_option maxRecDepth 20000 in
theorem m_415 : Cond.selects R_Cc y_Cc_thickness y_Cc_thickness ∈ WL := List.mem_filter.mpr ⟨List.mem_of_getElem? (i := 415) rfl, rfl⟩
set_option maxRecDepth 20000 in
theorem m_416 : Cond.code y_Cc_thickness b_Cc_thickness 4 (some .int) ∈ WL := List.mem_filter.mpr ⟨List.mem_of_getElem? (i := 416) rfl, rfl⟩
set_option maxRecDepth 20000 in
theorem m_417 : Cond.methodLink R_Cc 77 y_Fo_leastThickness ∈ WL := List.mem_filter.mpr ⟨List.mem_of_getElem? (i := 417) rfl, rfl⟩
set_option maxRecDepth 20000 in
theorem m_418 : Cond.instanceMethod y_Fo_leastThickness ∈ WL := List.mem_filter.mpr ⟨List.mem_of_getElem? (i := 418) rfl, rfl⟩
set_option maxRecDepth 20000 in
theorem m_419 : Cond.selects R_Fo y_Fo_leastThickness y_Fo_leastThickness ∈ WL := List.mem_filter.mpr ⟨List.mem_of_getElem? (i := 419) rfl, rfl⟩
set_option maxRecDepth 20000 in
theorem m_420 : Cond.code y_Fo_leastThickness b_Fo_leastThickness 9 (some .int) ∈ WL := List.mem_filter.mpr ⟨List.mem_of_getElem? (i := 420) rfl, rfl⟩
set_option maxRecDepth 20000 in
theorem m_421 : Cond.methodLink R_Fo 46 y_Fo_valueAt ∈ WL := List.mem_filter.mpr ⟨List.mem_of_getElem? (i := 421) rfl, rfl⟩
set_option maxRecDepth 20000 in
theorem m_422 : Cond.methodLink R_La 121 y_La_pack ∈ WL := List.mem_filter.mpr ⟨List.mem_of_getElem? (i := 422) rfl, rfl⟩
set_option maxRecDepth 20000 in
theorem m_423 : Cond.static y_La_pack ∈ WL := List.mem_filter.mpr ⟨List.mem_of_getElem? (i := 423) rfl, rfl⟩
set_option maxRecDepth 20000 in
theorem m_425 : Cond.methodLink R_La 37 y_Cc_pack ∈ WL := List.mem_filter.mpr ⟨List.mem_of_getElem? (i := 425) rfl, rfl⟩
set_option maxRecDepth 20000 in
theorem m_426 : Cond.instanceMethod y_Cc_pack ∈ WL := List.mem_filter.mpr ⟨List.mem_of_getElem? (i := 426) rfl, rfl⟩
set_option maxRecDepth 20000 in
theorem m_427 : Cond.selects R_Cc y_Cc_pack y_Cc_pack ∈ WL := List.mem_filter.mpr ⟨List.mem_of_getElem? (i := 427) rfl, rfl⟩
set_option maxRecDepth 20000 in
theorem m_428 : Cond.code y_Cc_pack b_Cc_pack 3 (some .int) ∈ WL := List.mem_filter.mpr ⟨List.mem_of_getElem? (i := 428) rfl, rfl⟩
set_option maxRecDepth 20000 in
theorem m_429 : Cond.methodLink R_Cc 80 y_Pk_packSet ∈ WL := List.mem_filter.mpr ⟨List.mem_of_getElem? (i := 429) rfl, rfl⟩
set_option maxRecDepth 20000 in
theorem m_430 : Cond.instanceMethod y_Pk_packSet ∈ WL := List.mem_filter.mpr ⟨List.mem_of_getElem? (i := 430) rfl, rfl⟩
set_option maxRecDepth 20000 in
theorem m_431 : Cond.selects R_Pk y_Pk_packSet y_Pk_packSet ∈ WL := List.mem_filter.mpr ⟨List.mem_of_getElem? (i := 431) rfl, rfl⟩
set_option maxRecDepth 20000 in
theorem m_432 : Cond.code y_Pk_packSet b_Pk_packSet 5 (some .int) ∈ WL := List.mem_filter.mpr ⟨List.mem_of_getElem? (i := 432) rfl, rfl⟩
set_option maxRecDepth 20000 in
theorem m_433 : Cond.classLink R_Pk 34 "java/lang/IndexOutOfBoundsException" ∈ WL := List.mem_filter.mpr ⟨List.mem_of_getElem? (i := 433) rfl, rfl⟩
set_option maxRecDepth 20000 in
theorem m_435 : Cond.methodLink R_Pk 38 ⟨"java/lang/IndexOutOfBoundsException", "<init>", "(Ljava/lang/String;)V"⟩ ∈ WL := List.mem_filter.mpr ⟨List.mem_of_getElem? (i := 435) rfl, rfl⟩
set_option maxRecDepth 20000 in
theorem m_436 : Cond.classLink R_Pk 41 "java/lang/IllegalArgumentException" ∈ WL := List.mem_filter.mpr ⟨List.mem_of_getElem? (i := 436) rfl, rfl⟩
set_option maxRecDepth 20000 in
theorem m_438 : Cond.methodLink R_Pk 45 ⟨"java/lang/IllegalArgumentException", "<init>", "(Ljava/lang/String;)V"⟩ ∈ WL := List.mem_filter.mpr ⟨List.mem_of_getElem? (i := 438) rfl, rfl⟩
set_option maxRecDepth 20000 in
theorem m_440 : Cond.methodLink R_Pk 50 y_Pk_isIn ∈ WL := List.mem_filter.mpr ⟨List.mem_of_getElem? (i := 440) rfl, rfl⟩
set_option maxRecDepth 20000 in
theorem m_441 : Cond.static y_Pk_isIn ∈ WL := List.mem_filter.mpr ⟨List.mem_of_getElem? (i := 441) rfl, rfl⟩
set_option maxRecDepth 20000 in
theorem m_442 : Cond.code y_Pk_isIn b_Pk_isIn 2 (some .boolean) ∈ WL := List.mem_filter.mpr ⟨List.mem_of_getElem? (i := 442) rfl, rfl⟩
set_option maxRecDepth 20000 in
theorem m_443 : Cond.methodLink R_Pk 54 y_Go_mayStandAnyhow ∈ WL := List.mem_filter.mpr ⟨List.mem_of_getElem? (i := 443) rfl, rfl⟩
set_option maxRecDepth 20000 in
theorem m_444 : Cond.instanceMethod y_Go_mayStandAnyhow ∈ WL := List.mem_filter.mpr ⟨List.mem_of_getElem? (i := 444) rfl, rfl⟩
set_option maxRecDepth 20000 in
theorem m_445 : Cond.selects R_Go y_Go_mayStandAnyhow y_Go_mayStandAnyhow ∈ WL := List.mem_filter.mpr ⟨List.mem_of_getElem? (i := 445) rfl, rfl⟩
set_option maxRecDepth 20000 in
theorem m_446 : Cond.code y_Go_mayStandAnyhow b_Go_mayStandAnyhow 2 (some .boolean) ∈ WL := List.mem_filter.mpr ⟨List.mem_of_getElem? (i := 446) rfl, rfl⟩
set_option maxRecDepth 20000 in
theorem m_447 : Cond.methodLink R_Pk 64 y_Pk_findLeast ∈ WL := List.mem_filter.mpr ⟨List.mem_of_getElem? (i := 447) rfl, rfl⟩
set_option maxRecDepth 20000 in
theorem m_449 : Cond.instanceMethod y_Pk_findLeast ∈ WL := List.mem_filter.mpr ⟨List.mem_of_getElem? (i := 449) rfl, rfl⟩
set_option maxRecDepth 20000 in
theorem m_450 : Cond.code y_Pk_findLeast b_Pk_findLeast 5 (Option.none : Option Jvm.ClassFile.FieldType) ∈ WL := List.mem_filter.mpr ⟨List.mem_of_getElem? (i := 450) rfl, rfl⟩
set_option maxRecDepth 20000 in
theorem m_451 : Cond.constantLong R_Pk 93 9223372036854775807 ∈ WL := List.mem_filter.mpr ⟨List.mem_of_getElem? (i := 451) rfl, rfl⟩
set_option maxRecDepth 20000 in
theorem m_452 : Cond.methodLink R_Pk 100 y_Pk_tryWithin ∈ WL := List.mem_filter.mpr ⟨List.mem_of_getElem? (i := 452) rfl, rfl⟩
set_option maxRecDepth 20000 in
theorem m_454 : Cond.instanceMethod y_Pk_tryWithin ∈ WL := List.mem_filter.mpr ⟨List.mem_of_getElem? (i := 454) rfl, rfl⟩
set_option maxRecDepth 20000 in
theorem m_455 : Cond.code y_Pk_tryWithin b_Pk_tryWithin 7 (Option.none : Option Jvm.ClassFile.FieldType) ∈ WL := List.mem_filter.mpr ⟨List.mem_of_getElem? (i := 455) rfl, rfl⟩
set_option maxRecDepth 20000 in
theorem m_456 : Cond.methodLink R_Pk 104 y_Go_shortestWay ∈ WL := List.mem_filter.mpr ⟨List.mem_of_getElem? (i := 456) rfl, rfl⟩
set_option maxRecDepth 20000 in
theorem m_457 : Cond.instanceMethod y_Go_shortestWay ∈ WL := List.mem_filter.mpr ⟨List.mem_of_getElem? (i := 457) rfl, rfl⟩
set_option maxRecDepth 20000 in
theorem m_458 : Cond.selects R_Go y_Go_shortestWay y_Go_shortestWay ∈ WL := List.mem_filter.mpr ⟨List.mem_of_getElem? (i := 458) rfl, rfl⟩
set_option maxRecDepth 20000 in
theorem m_459 : Cond.code y_Go_shortestWay b_Go_shortestWay 9 (some .int) ∈ WL := List.mem_filter.mpr ⟨List.mem_of_getElem? (i := 459) rfl, rfl⟩
set_option maxRecDepth 20000 in
theorem m_460 : Cond.methodLink R_Go 46 y_Go_sizeOf ∈ WL := List.mem_filter.mpr ⟨List.mem_of_getElem? (i := 460) rfl, rfl⟩
set_option maxRecDepth 20000 in
theorem m_461 : Cond.instanceMethod y_Go_sizeOf ∈ WL := List.mem_filter.mpr ⟨List.mem_of_getElem? (i := 461) rfl, rfl⟩
set_option maxRecDepth 20000 in
theorem m_462 : Cond.selects R_Go y_Go_sizeOf y_Go_sizeOf ∈ WL := List.mem_filter.mpr ⟨List.mem_of_getElem? (i := 462) rfl, rfl⟩
set_option maxRecDepth 20000 in
theorem m_463 : Cond.code y_Go_sizeOf b_Go_sizeOf 4 (some .int) ∈ WL := List.mem_filter.mpr ⟨List.mem_of_getElem? (i := 463) rfl, rfl⟩
set_option maxRecDepth 20000 in
theorem m_466 : Cond.methodLink R_Go 50 y_Go_mayStand ∈ WL := List.mem_filter.mpr ⟨List.mem_of_getElem? (i := 466) rfl, rfl⟩
set_option maxRecDepth 20000 in
theorem m_467 : Cond.instanceMethod y_Go_mayStand ∈ WL := List.mem_filter.mpr ⟨List.mem_of_getElem? (i := 467) rfl, rfl⟩
set_option maxRecDepth 20000 in
theorem m_468 : Cond.selects R_Go y_Go_mayStand y_Go_mayStand ∈ WL := List.mem_filter.mpr ⟨List.mem_of_getElem? (i := 468) rfl, rfl⟩
set_option maxRecDepth 20000 in
theorem m_469 : Cond.code y_Go_mayStand b_Go_mayStand 3 (some .boolean) ∈ WL := List.mem_filter.mpr ⟨List.mem_of_getElem? (i := 469) rfl, rfl⟩
set_option maxRecDepth 20000 in
theorem m_470 : Cond.methodLink R_Pk 108 y_Go_sizeOf ∈ WL := List.mem_filter.mpr ⟨List.mem_of_getElem? (i := 470) rfl, rfl⟩
set_option maxRecDepth 20000 in
theorem m_471 : Cond.methodLink R_Pk 111 y_Pk_triedIsLower ∈ WL := List.mem_filter.mpr ⟨List.mem_of_getElem? (i := 471) rfl, rfl⟩
set_option maxRecDepth 20000 in
theorem m_473 : Cond.instanceMethod y_Pk_triedIsLower ∈ WL := List.mem_filter.mpr ⟨List.mem_of_getElem? (i := 473) rfl, rfl⟩
set_option maxRecDepth 20000 in
theorem m_474 : Cond.code y_Pk_triedIsLower b_Pk_triedIsLower 2 (some .boolean) ∈ WL := List.mem_filter.mpr ⟨List.mem_of_getElem? (i := 474) rfl, rfl⟩
set_option maxRecDepth 20000 in
theorem m_475 : Cond.methodLink R_Pk 115 y_Pk_keep ∈ WL := List.mem_filter.mpr ⟨List.mem_of_getElem? (i := 475) rfl, rfl⟩
set_option maxRecDepth 20000 in
theorem m_477 : Cond.instanceMethod y_Pk_keep ∈ WL := List.mem_filter.mpr ⟨List.mem_of_getElem? (i := 477) rfl, rfl⟩
set_option maxRecDepth 20000 in
theorem m_478 : Cond.code y_Pk_keep b_Pk_keep 4 (Option.none : Option Jvm.ClassFile.FieldType) ∈ WL := List.mem_filter.mpr ⟨List.mem_of_getElem? (i := 478) rfl, rfl⟩
set_option maxRecDepth 20000 in
theorem m_479 : Cond.methodLink R_Pk 118 ⟨"java/lang/System", "arraycopy", "(Ljava/lang/Object;ILjava/lang/Object;II)V"⟩ ∈ WL := List.mem_filter.mpr ⟨List.mem_of_getElem? (i := 479) rfl, rfl⟩
set_option maxRecDepth 20000 in
theorem m_480 : Cond.static ⟨"java/lang/System", "arraycopy", "(Ljava/lang/Object;ILjava/lang/Object;II)V"⟩ ∈ WL := List.mem_filter.mpr ⟨List.mem_of_getElem? (i := 480) rfl, rfl⟩
set_option maxRecDepth 20000 in
theorem m_481 : Cond.native ⟨"java/lang/System", "arraycopy", "(Ljava/lang/Object;ILjava/lang/Object;II)V"⟩ ∈ WL := List.mem_filter.mpr ⟨List.mem_of_getElem? (i := 481) rfl, rfl⟩
set_option maxRecDepth 20000 in
theorem m_482 : Cond.methodLink R_Pk 68 y_Pk_placeInRow ∈ WL := List.mem_filter.mpr ⟨List.mem_of_getElem? (i := 482) rfl, rfl⟩
set_option maxRecDepth 20000 in
theorem m_484 : Cond.instanceMethod y_Pk_placeInRow ∈ WL := List.mem_filter.mpr ⟨List.mem_of_getElem? (i := 484) rfl, rfl⟩
set_option maxRecDepth 20000 in
theorem m_485 : Cond.code y_Pk_placeInRow b_Pk_placeInRow 4 (Option.none : Option Jvm.ClassFile.FieldType) ∈ WL := List.mem_filter.mpr ⟨List.mem_of_getElem? (i := 485) rfl, rfl⟩
set_option maxRecDepth 20000 in
theorem m_486 : Cond.methodLink R_Pk 71 y_In_bitCount ∈ WL := List.mem_filter.mpr ⟨List.mem_of_getElem? (i := 486) rfl, rfl⟩
set_option maxRecDepth 20000 in
theorem m_487 : Cond.static y_In_bitCount ∈ WL := List.mem_filter.mpr ⟨List.mem_of_getElem? (i := 487) rfl, rfl⟩
set_option maxRecDepth 20000 in
theorem m_488 : Cond.code y_In_bitCount b_In_bitCount 1 (some .int) ∈ WL := List.mem_filter.mpr ⟨List.mem_of_getElem? (i := 488) rfl, rfl⟩
set_option maxRecDepth 20000 in
theorem m_489 : Cond.constant R_In 265 1431655765 ∈ WL := List.mem_filter.mpr ⟨List.mem_of_getElem? (i := 489) rfl, rfl⟩
set_option maxRecDepth 20000 in
theorem m_490 : Cond.constant R_In 266 858993459 ∈ WL := List.mem_filter.mpr ⟨List.mem_of_getElem? (i := 490) rfl, rfl⟩
set_option maxRecDepth 20000 in
theorem m_491 : Cond.constant R_In 267 252645135 ∈ WL := List.mem_filter.mpr ⟨List.mem_of_getElem? (i := 491) rfl, rfl⟩
set_option maxRecDepth 20000 in
theorem m_492 : Cond.methodLink R_La 124 y_La_size ∈ WL := List.mem_filter.mpr ⟨List.mem_of_getElem? (i := 492) rfl, rfl⟩
set_option maxRecDepth 20000 in
theorem m_493 : Cond.static y_La_size ∈ WL := List.mem_filter.mpr ⟨List.mem_of_getElem? (i := 493) rfl, rfl⟩
set_option maxRecDepth 20000 in
theorem m_495 : Cond.methodLink R_La 40 y_Cc_size ∈ WL := List.mem_filter.mpr ⟨List.mem_of_getElem? (i := 495) rfl, rfl⟩
set_option maxRecDepth 20000 in
theorem m_496 : Cond.instanceMethod y_Cc_size ∈ WL := List.mem_filter.mpr ⟨List.mem_of_getElem? (i := 496) rfl, rfl⟩
set_option maxRecDepth 20000 in
theorem m_497 : Cond.selects R_Cc y_Cc_size y_Cc_size ∈ WL := List.mem_filter.mpr ⟨List.mem_of_getElem? (i := 497) rfl, rfl⟩
set_option maxRecDepth 20000 in
theorem m_498 : Cond.code y_Cc_size b_Cc_size 2 (some .int) ∈ WL := List.mem_filter.mpr ⟨List.mem_of_getElem? (i := 498) rfl, rfl⟩
set_option maxRecDepth 20000 in
theorem m_499 : Cond.methodLink R_Cc 84 y_Pk_sizeAlong ∈ WL := List.mem_filter.mpr ⟨List.mem_of_getElem? (i := 499) rfl, rfl⟩
set_option maxRecDepth 20000 in
theorem m_500 : Cond.instanceMethod y_Pk_sizeAlong ∈ WL := List.mem_filter.mpr ⟨List.mem_of_getElem? (i := 500) rfl, rfl⟩
set_option maxRecDepth 20000 in
theorem m_501 : Cond.selects R_Pk y_Pk_sizeAlong y_Pk_sizeAlong ∈ WL := List.mem_filter.mpr ⟨List.mem_of_getElem? (i := 501) rfl, rfl⟩
set_option maxRecDepth 20000 in
theorem m_502 : Cond.code y_Pk_sizeAlong b_Pk_sizeAlong 2 (some .int) ∈ WL := List.mem_filter.mpr ⟨List.mem_of_getElem? (i := 502) rfl, rfl⟩
set_option maxRecDepth 20000 in
theorem m_504 : Cond.methodLink R_Pk 81 y_Pk_requirePacked ∈ WL := List.mem_filter.mpr ⟨List.mem_of_getElem? (i := 504) rfl, rfl⟩
set_option maxRecDepth 20000 in
theorem m_506 : Cond.instanceMethod y_Pk_requirePacked ∈ WL := List.mem_filter.mpr ⟨List.mem_of_getElem? (i := 506) rfl, rfl⟩
set_option maxRecDepth 20000 in
theorem m_507 : Cond.code y_Pk_requirePacked b_Pk_requirePacked 1 (Option.none : Option Jvm.ClassFile.FieldType) ∈ WL := List.mem_filter.mpr ⟨List.mem_of_getElem? (i := 507) rfl, rfl⟩
set_option maxRecDepth 20000 in
theorem m_508 : Cond.classLink R_Pk 86 "java/lang/IllegalStateException" ∈ WL := List.mem_filter.mpr ⟨List.mem_of_getElem? (i := 508) rfl, rfl⟩
set_option maxRecDepth 20000 in
theorem m_510 : Cond.methodLink R_Pk 90 ⟨"java/lang/IllegalStateException", "<init>", "(Ljava/lang/String;)V"⟩ ∈ WL := List.mem_filter.mpr ⟨List.mem_of_getElem? (i := 510) rfl, rfl⟩
set_option maxRecDepth 20000 in
theorem m_511 : Cond.methodLink R_La 128 y_La_at ∈ WL := List.mem_filter.mpr ⟨List.mem_of_getElem? (i := 511) rfl, rfl⟩
set_option maxRecDepth 20000 in
theorem m_512 : Cond.static y_La_at ∈ WL := List.mem_filter.mpr ⟨List.mem_of_getElem? (i := 512) rfl, rfl⟩
set_option maxRecDepth 20000 in
theorem m_514 : Cond.methodLink R_La 44 y_Cc_at ∈ WL := List.mem_filter.mpr ⟨List.mem_of_getElem? (i := 514) rfl, rfl⟩
set_option maxRecDepth 20000 in
theorem m_515 : Cond.instanceMethod y_Cc_at ∈ WL := List.mem_filter.mpr ⟨List.mem_of_getElem? (i := 515) rfl, rfl⟩
set_option maxRecDepth 20000 in
theorem m_516 : Cond.selects R_Cc y_Cc_at y_Cc_at ∈ WL := List.mem_filter.mpr ⟨List.mem_of_getElem? (i := 516) rfl, rfl⟩
set_option maxRecDepth 20000 in
theorem m_517 : Cond.code y_Cc_at b_Cc_at 3 (some .int) ∈ WL := List.mem_filter.mpr ⟨List.mem_of_getElem? (i := 517) rfl, rfl⟩
set_option maxRecDepth 20000 in
theorem m_518 : Cond.methodLink R_Cc 92 y_Cc_requireIndex ∈ WL := List.mem_filter.mpr ⟨List.mem_of_getElem? (i := 518) rfl, rfl⟩
set_option maxRecDepth 20000 in
theorem m_519 : Cond.methodLink R_Cc 96 y_Pk_tell ∈ WL := List.mem_filter.mpr ⟨List.mem_of_getElem? (i := 519) rfl, rfl⟩
set_option maxRecDepth 20000 in
theorem m_520 : Cond.instanceMethod y_Pk_tell ∈ WL := List.mem_filter.mpr ⟨List.mem_of_getElem? (i := 520) rfl, rfl⟩
set_option maxRecDepth 20000 in
theorem m_521 : Cond.selects R_Pk y_Pk_tell y_Pk_tell ∈ WL := List.mem_filter.mpr ⟨List.mem_of_getElem? (i := 521) rfl, rfl⟩
set_option maxRecDepth 20000 in
theorem m_522 : Cond.code y_Pk_tell b_Pk_tell 3 (some .int) ∈ WL := List.mem_filter.mpr ⟨List.mem_of_getElem? (i := 522) rfl, rfl⟩
set_option maxRecDepth 20000 in
theorem m_524 : Cond.methodLink R_La 131 y_La_crate ∈ WL := List.mem_filter.mpr ⟨List.mem_of_getElem? (i := 524) rfl, rfl⟩
set_option maxRecDepth 20000 in
theorem m_525 : Cond.static y_La_crate ∈ WL := List.mem_filter.mpr ⟨List.mem_of_getElem? (i := 525) rfl, rfl⟩
set_option maxRecDepth 20000 in
theorem m_527 : Cond.methodLink R_La 47 y_Cc_crate ∈ WL := List.mem_filter.mpr ⟨List.mem_of_getElem? (i := 527) rfl, rfl⟩
set_option maxRecDepth 20000 in
theorem m_528 : Cond.instanceMethod y_Cc_crate ∈ WL := List.mem_filter.mpr ⟨List.mem_of_getElem? (i := 528) rfl, rfl⟩
set_option maxRecDepth 20000 in
theorem m_529 : Cond.selects R_Cc y_Cc_crate y_Cc_crate ∈ WL := List.mem_filter.mpr ⟨List.mem_of_getElem? (i := 529) rfl, rfl⟩
set_option maxRecDepth 20000 in
theorem m_530 : Cond.code y_Cc_crate b_Cc_crate 4 (some .int) ∈ WL := List.mem_filter.mpr ⟨List.mem_of_getElem? (i := 530) rfl, rfl⟩
set_option maxRecDepth 20000 in
theorem m_531 : Cond.methodLink R_Cc 99 y_Sk_add ∈ WL := List.mem_filter.mpr ⟨List.mem_of_getElem? (i := 531) rfl, rfl⟩
set_option maxRecDepth 20000 in
theorem m_532 : Cond.instanceMethod y_Sk_add ∈ WL := List.mem_filter.mpr ⟨List.mem_of_getElem? (i := 532) rfl, rfl⟩
set_option maxRecDepth 20000 in
theorem m_533 : Cond.selects R_Sk y_Sk_add y_Sk_add ∈ WL := List.mem_filter.mpr ⟨List.mem_of_getElem? (i := 533) rfl, rfl⟩
set_option maxRecDepth 20000 in
theorem m_534 : Cond.code y_Sk_add b_Sk_add 4 (some .int) ∈ WL := List.mem_filter.mpr ⟨List.mem_of_getElem? (i := 534) rfl, rfl⟩
set_option maxRecDepth 20000 in
theorem m_537 : Cond.methodLink R_La 134 y_La_match ∈ WL := List.mem_filter.mpr ⟨List.mem_of_getElem? (i := 537) rfl, rfl⟩
set_option maxRecDepth 20000 in
theorem m_538 : Cond.static y_La_match ∈ WL := List.mem_filter.mpr ⟨List.mem_of_getElem? (i := 538) rfl, rfl⟩
set_option maxRecDepth 20000 in
theorem m_540 : Cond.methodLink R_La 50 y_Cc_match ∈ WL := List.mem_filter.mpr ⟨List.mem_of_getElem? (i := 540) rfl, rfl⟩
set_option maxRecDepth 20000 in
theorem m_541 : Cond.instanceMethod y_Cc_match ∈ WL := List.mem_filter.mpr ⟨List.mem_of_getElem? (i := 541) rfl, rfl⟩
set_option maxRecDepth 20000 in
theorem m_542 : Cond.selects R_Cc y_Cc_match y_Cc_match ∈ WL := List.mem_filter.mpr ⟨List.mem_of_getElem? (i := 542) rfl, rfl⟩
set_option maxRecDepth 20000 in
theorem m_543 : Cond.code y_Cc_match b_Cc_match 1 (some .int) ∈ WL := List.mem_filter.mpr ⟨List.mem_of_getElem? (i := 543) rfl, rfl⟩
set_option maxRecDepth 20000 in
theorem m_544 : Cond.methodLink R_Cc 101 y_Sk_takeFor ∈ WL := List.mem_filter.mpr ⟨List.mem_of_getElem? (i := 544) rfl, rfl⟩
set_option maxRecDepth 20000 in
theorem m_545 : Cond.instanceMethod y_Sk_takeFor ∈ WL := List.mem_filter.mpr ⟨List.mem_of_getElem? (i := 545) rfl, rfl⟩
set_option maxRecDepth 20000 in
theorem m_546 : Cond.selects R_Sk y_Sk_takeFor y_Sk_takeFor ∈ WL := List.mem_filter.mpr ⟨List.mem_of_getElem? (i := 546) rfl, rfl⟩
set_option maxRecDepth 20000 in
theorem m_547 : Cond.code y_Sk_takeFor b_Sk_takeFor 10 (some .int) ∈ WL := List.mem_filter.mpr ⟨List.mem_of_getElem? (i := 547) rfl, rfl⟩
set_option maxRecDepth 20000 in
theorem m_548 : Cond.constantLong R_Sk 39 9223372036854775807 ∈ WL := List.mem_filter.mpr ⟨List.mem_of_getElem? (i := 548) rfl, rfl⟩
set_option maxRecDepth 20000 in
theorem m_549 : Cond.methodLink R_Sk 41 y_Sk_hasRoom ∈ WL := List.mem_filter.mpr ⟨List.mem_of_getElem? (i := 549) rfl, rfl⟩
set_option maxRecDepth 20000 in
theorem m_551 : Cond.instanceMethod y_Sk_hasRoom ∈ WL := List.mem_filter.mpr ⟨List.mem_of_getElem? (i := 551) rfl, rfl⟩
set_option maxRecDepth 20000 in
theorem m_552 : Cond.code y_Sk_hasRoom b_Sk_hasRoom 7 (some .boolean) ∈ WL := List.mem_filter.mpr ⟨List.mem_of_getElem? (i := 552) rfl, rfl⟩
set_option maxRecDepth 20000 in
theorem m_553 : Cond.methodLink R_La 138 y_La_free ∈ WL := List.mem_filter.mpr ⟨List.mem_of_getElem? (i := 553) rfl, rfl⟩
set_option maxRecDepth 20000 in
theorem m_554 : Cond.static y_La_free ∈ WL := List.mem_filter.mpr ⟨List.mem_of_getElem? (i := 554) rfl, rfl⟩
set_option maxRecDepth 20000 in
theorem m_556 : Cond.methodLink R_La 54 y_Cc_free ∈ WL := List.mem_filter.mpr ⟨List.mem_of_getElem? (i := 556) rfl, rfl⟩
set_option maxRecDepth 20000 in
theorem m_557 : Cond.instanceMethod y_Cc_free ∈ WL := List.mem_filter.mpr ⟨List.mem_of_getElem? (i := 557) rfl, rfl⟩
set_option maxRecDepth 20000 in
theorem m_558 : Cond.selects R_Cc y_Cc_free y_Cc_free ∈ WL := List.mem_filter.mpr ⟨List.mem_of_getElem? (i := 558) rfl, rfl⟩
set_option maxRecDepth 20000 in
theorem m_559 : Cond.code y_Cc_free b_Cc_free 2 (some .boolean) ∈ WL := List.mem_filter.mpr ⟨List.mem_of_getElem? (i := 559) rfl, rfl⟩
set_option maxRecDepth 20000 in
theorem m_560 : Cond.methodLink R_Cc 104 y_Sk_release ∈ WL := List.mem_filter.mpr ⟨List.mem_of_getElem? (i := 560) rfl, rfl⟩
set_option maxRecDepth 20000 in
theorem m_561 : Cond.instanceMethod y_Sk_release ∈ WL := List.mem_filter.mpr ⟨List.mem_of_getElem? (i := 561) rfl, rfl⟩
set_option maxRecDepth 20000 in
theorem m_562 : Cond.selects R_Sk y_Sk_release y_Sk_release ∈ WL := List.mem_filter.mpr ⟨List.mem_of_getElem? (i := 562) rfl, rfl⟩
set_option maxRecDepth 20000 in
theorem m_563 : Cond.code y_Sk_release b_Sk_release 3 (some .boolean) ∈ WL := List.mem_filter.mpr ⟨List.mem_of_getElem? (i := 563) rfl, rfl⟩
set_option maxRecDepth 20000 in
theorem m_565 : Cond.methodLink R_La 141 y_La_split ∈ WL := List.mem_filter.mpr ⟨List.mem_of_getElem? (i := 565) rfl, rfl⟩
set_option maxRecDepth 20000 in
theorem m_566 : Cond.static y_La_split ∈ WL := List.mem_filter.mpr ⟨List.mem_of_getElem? (i := 566) rfl, rfl⟩
set_option maxRecDepth 20000 in
theorem m_568 : Cond.methodLink R_La 58 y_Cc_split ∈ WL := List.mem_filter.mpr ⟨List.mem_of_getElem? (i := 568) rfl, rfl⟩
set_option maxRecDepth 20000 in
theorem m_569 : Cond.instanceMethod y_Cc_split ∈ WL := List.mem_filter.mpr ⟨List.mem_of_getElem? (i := 569) rfl, rfl⟩
set_option maxRecDepth 20000 in
theorem m_570 : Cond.selects R_Cc y_Cc_split y_Cc_split ∈ WL := List.mem_filter.mpr ⟨List.mem_of_getElem? (i := 570) rfl, rfl⟩
set_option maxRecDepth 20000 in
theorem m_571 : Cond.code y_Cc_split b_Cc_split 2 (some .int) ∈ WL := List.mem_filter.mpr ⟨List.mem_of_getElem? (i := 571) rfl, rfl⟩
set_option maxRecDepth 20000 in
theorem m_572 : Cond.methodLink R_Cc 108 y_Go_leastCrates ∈ WL := List.mem_filter.mpr ⟨List.mem_of_getElem? (i := 572) rfl, rfl⟩
set_option maxRecDepth 20000 in
theorem m_573 : Cond.instanceMethod y_Go_leastCrates ∈ WL := List.mem_filter.mpr ⟨List.mem_of_getElem? (i := 573) rfl, rfl⟩
set_option maxRecDepth 20000 in
theorem m_574 : Cond.selects R_Go y_Go_leastCrates y_Go_leastCrates ∈ WL := List.mem_filter.mpr ⟨List.mem_of_getElem? (i := 574) rfl, rfl⟩
set_option maxRecDepth 20000 in
theorem m_575 : Cond.code y_Go_leastCrates b_Go_leastCrates 4 (some .int) ∈ WL := List.mem_filter.mpr ⟨List.mem_of_getElem? (i := 575) rfl, rfl⟩
set_option maxRecDepth 20000 in
theorem m_576 : Cond.classLink R_Go 54 "java/lang/IllegalArgumentException" ∈ WL := List.mem_filter.mpr ⟨List.mem_of_getElem? (i := 576) rfl, rfl⟩
set_option maxRecDepth 20000 in
theorem m_578 : Cond.methodLink R_Go 58 ⟨"java/lang/IllegalArgumentException", "<init>", "(Ljava/lang/String;)V"⟩ ∈ WL := List.mem_filter.mpr ⟨List.mem_of_getElem? (i := 578) rfl, rfl⟩
set_option maxRecDepth 20000 in
theorem m_579 : Cond.methodLink R_Go 61 y_Go_partSet ∈ WL := List.mem_filter.mpr ⟨List.mem_of_getElem? (i := 579) rfl, rfl⟩
set_option maxRecDepth 20000 in
theorem m_581 : Cond.instanceMethod y_Go_partSet ∈ WL := List.mem_filter.mpr ⟨List.mem_of_getElem? (i := 581) rfl, rfl⟩
set_option maxRecDepth 20000 in
theorem m_582 : Cond.code y_Go_partSet b_Go_partSet 10 (Option.none : Option Jvm.ClassFile.FieldType) ∈ WL := List.mem_filter.mpr ⟨List.mem_of_getElem? (i := 582) rfl, rfl⟩
set_option maxRecDepth 20000 in
theorem m_583 : Cond.methodLink R_La 144 y_La_lag ∈ WL := List.mem_filter.mpr ⟨List.mem_of_getElem? (i := 583) rfl, rfl⟩
set_option maxRecDepth 20000 in
theorem m_584 : Cond.static y_La_lag ∈ WL := List.mem_filter.mpr ⟨List.mem_of_getElem? (i := 584) rfl, rfl⟩
set_option maxRecDepth 20000 in
theorem m_586 : Cond.methodLink R_La 61 y_Cc_lag ∈ WL := List.mem_filter.mpr ⟨List.mem_of_getElem? (i := 586) rfl, rfl⟩
set_option maxRecDepth 20000 in
theorem m_587 : Cond.instanceMethod y_Cc_lag ∈ WL := List.mem_filter.mpr ⟨List.mem_of_getElem? (i := 587) rfl, rfl⟩
set_option maxRecDepth 20000 in
theorem m_588 : Cond.selects R_Cc y_Cc_lag y_Cc_lag ∈ WL := List.mem_filter.mpr ⟨List.mem_of_getElem? (i := 588) rfl, rfl⟩
set_option maxRecDepth 20000 in
theorem m_589 : Cond.code y_Cc_lag b_Cc_lag 2 (some .int) ∈ WL := List.mem_filter.mpr ⟨List.mem_of_getElem? (i := 589) rfl, rfl⟩
set_option maxRecDepth 20000 in
theorem m_590 : Cond.methodLink R_Cc 111 y_Ai_setLag ∈ WL := List.mem_filter.mpr ⟨List.mem_of_getElem? (i := 590) rfl, rfl⟩
set_option maxRecDepth 20000 in
theorem m_591 : Cond.instanceMethod y_Ai_setLag ∈ WL := List.mem_filter.mpr ⟨List.mem_of_getElem? (i := 591) rfl, rfl⟩
set_option maxRecDepth 20000 in
theorem m_592 : Cond.selects R_Ai y_Ai_setLag y_Ai_setLag ∈ WL := List.mem_filter.mpr ⟨List.mem_of_getElem? (i := 592) rfl, rfl⟩
set_option maxRecDepth 20000 in
theorem m_593 : Cond.code y_Ai_setLag b_Ai_setLag 3 (some .int) ∈ WL := List.mem_filter.mpr ⟨List.mem_of_getElem? (i := 593) rfl, rfl⟩
set_option maxRecDepth 20000 in
theorem m_595 : Cond.methodLink R_La 147 y_La_climate ∈ WL := List.mem_filter.mpr ⟨List.mem_of_getElem? (i := 595) rfl, rfl⟩
set_option maxRecDepth 20000 in
theorem m_596 : Cond.static y_La_climate ∈ WL := List.mem_filter.mpr ⟨List.mem_of_getElem? (i := 596) rfl, rfl⟩
set_option maxRecDepth 20000 in
theorem m_598 : Cond.methodLink R_La 64 y_Cc_climate ∈ WL := List.mem_filter.mpr ⟨List.mem_of_getElem? (i := 598) rfl, rfl⟩
set_option maxRecDepth 20000 in
theorem m_599 : Cond.instanceMethod y_Cc_climate ∈ WL := List.mem_filter.mpr ⟨List.mem_of_getElem? (i := 599) rfl, rfl⟩
set_option maxRecDepth 20000 in
theorem m_600 : Cond.selects R_Cc y_Cc_climate y_Cc_climate ∈ WL := List.mem_filter.mpr ⟨List.mem_of_getElem? (i := 600) rfl, rfl⟩
set_option maxRecDepth 20000 in
theorem m_601 : Cond.code y_Cc_climate b_Cc_climate 2 (some .int) ∈ WL := List.mem_filter.mpr ⟨List.mem_of_getElem? (i := 601) rfl, rfl⟩
set_option maxRecDepth 20000 in
theorem m_602 : Cond.methodLink R_Cc 114 y_Ai_nextHour ∈ WL := List.mem_filter.mpr ⟨List.mem_of_getElem? (i := 602) rfl, rfl⟩
set_option maxRecDepth 20000 in
theorem m_603 : Cond.instanceMethod y_Ai_nextHour ∈ WL := List.mem_filter.mpr ⟨List.mem_of_getElem? (i := 603) rfl, rfl⟩
set_option maxRecDepth 20000 in
theorem m_604 : Cond.selects R_Ai y_Ai_nextHour y_Ai_nextHour ∈ WL := List.mem_filter.mpr ⟨List.mem_of_getElem? (i := 604) rfl, rfl⟩
set_option maxRecDepth 20000 in
theorem m_605 : Cond.code y_Ai_nextHour b_Ai_nextHour 4 (some .int) ∈ WL := List.mem_filter.mpr ⟨List.mem_of_getElem? (i := 605) rfl, rfl⟩
set_option maxRecDepth 20000 in
theorem m_607 : Cond.methodLink R_Ai 30 y_Ma_max ∈ WL := List.mem_filter.mpr ⟨List.mem_of_getElem? (i := 607) rfl, rfl⟩
set_option maxRecDepth 20000 in
theorem m_608 : Cond.static y_Ma_max ∈ WL := List.mem_filter.mpr ⟨List.mem_of_getElem? (i := 608) rfl, rfl⟩
set_option maxRecDepth 20000 in
theorem m_609 : Cond.code y_Ma_max b_Ma_max 2 (some .int) ∈ WL := List.mem_filter.mpr ⟨List.mem_of_getElem? (i := 609) rfl, rfl⟩
set_option maxRecDepth 20000 in
theorem m_610 : Cond.methodLink R_Ai 36 y_Ma_floorDiv ∈ WL := List.mem_filter.mpr ⟨List.mem_of_getElem? (i := 610) rfl, rfl⟩
set_option maxRecDepth 20000 in
theorem m_611 : Cond.methodLink R_La 150 y_La_inside ∈ WL := List.mem_filter.mpr ⟨List.mem_of_getElem? (i := 611) rfl, rfl⟩
set_option maxRecDepth 20000 in
theorem m_612 : Cond.static y_La_inside ∈ WL := List.mem_filter.mpr ⟨List.mem_of_getElem? (i := 612) rfl, rfl⟩
set_option maxRecDepth 20000 in
theorem m_614 : Cond.methodLink R_La 67 y_Cc_inside ∈ WL := List.mem_filter.mpr ⟨List.mem_of_getElem? (i := 614) rfl, rfl⟩
set_option maxRecDepth 20000 in
theorem m_615 : Cond.instanceMethod y_Cc_inside ∈ WL := List.mem_filter.mpr ⟨List.mem_of_getElem? (i := 615) rfl, rfl⟩
set_option maxRecDepth 20000 in
theorem m_616 : Cond.selects R_Cc y_Cc_inside y_Cc_inside ∈ WL := List.mem_filter.mpr ⟨List.mem_of_getElem? (i := 616) rfl, rfl⟩
set_option maxRecDepth 20000 in
theorem m_617 : Cond.code y_Cc_inside b_Cc_inside 2 (some .int) ∈ WL := List.mem_filter.mpr ⟨List.mem_of_getElem? (i := 617) rfl, rfl⟩
set_option maxRecDepth 20000 in
theorem m_618 : Cond.methodLink R_Cc 117 y_Ai_afterHour ∈ WL := List.mem_filter.mpr ⟨List.mem_of_getElem? (i := 618) rfl, rfl⟩
set_option maxRecDepth 20000 in
theorem m_619 : Cond.instanceMethod y_Ai_afterHour ∈ WL := List.mem_filter.mpr ⟨List.mem_of_getElem? (i := 619) rfl, rfl⟩
set_option maxRecDepth 20000 in
theorem m_620 : Cond.selects R_Ai y_Ai_afterHour y_Ai_afterHour ∈ WL := List.mem_filter.mpr ⟨List.mem_of_getElem? (i := 620) rfl, rfl⟩
set_option maxRecDepth 20000 in
theorem m_621 : Cond.code y_Ai_afterHour b_Ai_afterHour 2 (some .int) ∈ WL := List.mem_filter.mpr ⟨List.mem_of_getElem? (i := 621) rfl, rfl⟩
set_option maxRecDepth 20000 in
theorem m_623 : Cond.methodLink R_La 153 y_La_steady ∈ WL := List.mem_filter.mpr ⟨List.mem_of_getElem? (i := 623) rfl, rfl⟩
set_option maxRecDepth 20000 in
theorem m_624 : Cond.static y_La_steady ∈ WL := List.mem_filter.mpr ⟨List.mem_of_getElem? (i := 624) rfl, rfl⟩
set_option maxRecDepth 20000 in
theorem m_626 : Cond.methodLink R_La 70 y_Cc_steady ∈ WL := List.mem_filter.mpr ⟨List.mem_of_getElem? (i := 626) rfl, rfl⟩
set_option maxRecDepth 20000 in
theorem m_627 : Cond.instanceMethod y_Cc_steady ∈ WL := List.mem_filter.mpr ⟨List.mem_of_getElem? (i := 627) rfl, rfl⟩
set_option maxRecDepth 20000 in
theorem m_628 : Cond.selects R_Cc y_Cc_steady y_Cc_steady ∈ WL := List.mem_filter.mpr ⟨List.mem_of_getElem? (i := 628) rfl, rfl⟩
set_option maxRecDepth 20000 in
theorem m_629 : Cond.code y_Cc_steady b_Cc_steady 3 (some .int) ∈ WL := List.mem_filter.mpr ⟨List.mem_of_getElem? (i := 629) rfl, rfl⟩
set_option maxRecDepth 20000 in
theorem m_630 : Cond.methodLink R_Cc 120 y_Ai_longestWithin ∈ WL := List.mem_filter.mpr ⟨List.mem_of_getElem? (i := 630) rfl, rfl⟩
set_option maxRecDepth 20000 in
theorem m_631 : Cond.instanceMethod y_Ai_longestWithin ∈ WL := List.mem_filter.mpr ⟨List.mem_of_getElem? (i := 631) rfl, rfl⟩
set_option maxRecDepth 20000 in
theorem m_632 : Cond.selects R_Ai y_Ai_longestWithin y_Ai_longestWithin ∈ WL := List.mem_filter.mpr ⟨List.mem_of_getElem? (i := 632) rfl, rfl⟩
set_option maxRecDepth 20000 in
theorem m_633 : Cond.code y_Ai_longestWithin b_Ai_longestWithin 7 (some .int) ∈ WL := List.mem_filter.mpr ⟨List.mem_of_getElem? (i := 633) rfl, rfl⟩
set_option maxRecDepth 20000 in
theorem m_634 : Cond.classLink R_Ai 42 "java/lang/IllegalArgumentException" ∈ WL := List.mem_filter.mpr ⟨List.mem_of_getElem? (i := 634) rfl, rfl⟩
set_option maxRecDepth 20000 in
theorem m_636 : Cond.methodLink R_Ai 46 ⟨"java/lang/IllegalArgumentException", "<init>", "(Ljava/lang/String;)V"⟩ ∈ WL := List.mem_filter.mpr ⟨List.mem_of_getElem? (i := 636) rfl, rfl⟩
set_option maxRecDepth 20000 in
theorem m_637 : Cond.methodLink R_La 156 y_La_limit ∈ WL := List.mem_filter.mpr ⟨List.mem_of_getElem? (i := 637) rfl, rfl⟩
set_option maxRecDepth 20000 in
theorem m_638 : Cond.static y_La_limit ∈ WL := List.mem_filter.mpr ⟨List.mem_of_getElem? (i := 638) rfl, rfl⟩
set_option maxRecDepth 20000 in
theorem m_640 : Cond.methodLink R_La 73 y_Cc_limit ∈ WL := List.mem_filter.mpr ⟨List.mem_of_getElem? (i := 640) rfl, rfl⟩
set_option maxRecDepth 20000 in
theorem m_641 : Cond.instanceMethod y_Cc_limit ∈ WL := List.mem_filter.mpr ⟨List.mem_of_getElem? (i := 641) rfl, rfl⟩
set_option maxRecDepth 20000 in
theorem m_642 : Cond.selects R_Cc y_Cc_limit y_Cc_limit ∈ WL := List.mem_filter.mpr ⟨List.mem_of_getElem? (i := 642) rfl, rfl⟩
set_option maxRecDepth 20000 in
theorem m_643 : Cond.code y_Cc_limit b_Cc_limit 3 (Option.none : Option Jvm.ClassFile.FieldType) ∈ WL := List.mem_filter.mpr ⟨List.mem_of_getElem? (i := 643) rfl, rfl⟩
set_option maxRecDepth 20000 in
theorem m_644 : Cond.methodLink R_Cc 123 y_Sh_allow ∈ WL := List.mem_filter.mpr ⟨List.mem_of_getElem? (i := 644) rfl, rfl⟩
set_option maxRecDepth 20000 in
theorem m_645 : Cond.instanceMethod y_Sh_allow ∈ WL := List.mem_filter.mpr ⟨List.mem_of_getElem? (i := 645) rfl, rfl⟩
set_option maxRecDepth 20000 in
theorem m_646 : Cond.selects R_Sh y_Sh_allow y_Sh_allow ∈ WL := List.mem_filter.mpr ⟨List.mem_of_getElem? (i := 646) rfl, rfl⟩
set_option maxRecDepth 20000 in
theorem m_647 : Cond.code y_Sh_allow b_Sh_allow 3 (Option.none : Option Jvm.ClassFile.FieldType) ∈ WL := List.mem_filter.mpr ⟨List.mem_of_getElem? (i := 647) rfl, rfl⟩
set_option maxRecDepth 20000 in
theorem m_649 : Cond.methodLink R_La 160 y_La_shock ∈ WL := List.mem_filter.mpr ⟨List.mem_of_getElem? (i := 649) rfl, rfl⟩
set_option maxRecDepth 20000 in
theorem m_650 : Cond.static y_La_shock ∈ WL := List.mem_filter.mpr ⟨List.mem_of_getElem? (i := 650) rfl, rfl⟩
set_option maxRecDepth 20000 in
theorem m_652 : Cond.methodLink R_La 77 y_Cc_shock ∈ WL := List.mem_filter.mpr ⟨List.mem_of_getElem? (i := 652) rfl, rfl⟩
set_option maxRecDepth 20000 in
theorem m_653 : Cond.instanceMethod y_Cc_shock ∈ WL := List.mem_filter.mpr ⟨List.mem_of_getElem? (i := 653) rfl, rfl⟩
set_option maxRecDepth 20000 in
theorem m_654 : Cond.selects R_Cc y_Cc_shock y_Cc_shock ∈ WL := List.mem_filter.mpr ⟨List.mem_of_getElem? (i := 654) rfl, rfl⟩
set_option maxRecDepth 20000 in
theorem m_655 : Cond.code y_Cc_shock b_Cc_shock 3 (some .boolean) ∈ WL := List.mem_filter.mpr ⟨List.mem_of_getElem? (i := 655) rfl, rfl⟩
set_option maxRecDepth 20000 in
theorem m_656 : Cond.methodLink R_Cc 126 y_Sh_add ∈ WL := List.mem_filter.mpr ⟨List.mem_of_getElem? (i := 656) rfl, rfl⟩
set_option maxRecDepth 20000 in
theorem m_657 : Cond.instanceMethod y_Sh_add ∈ WL := List.mem_filter.mpr ⟨List.mem_of_getElem? (i := 657) rfl, rfl⟩
set_option maxRecDepth 20000 in
theorem m_658 : Cond.selects R_Sh y_Sh_add y_Sh_add ∈ WL := List.mem_filter.mpr ⟨List.mem_of_getElem? (i := 658) rfl, rfl⟩
set_option maxRecDepth 20000 in
theorem m_659 : Cond.code y_Sh_add b_Sh_add 4 (some .boolean) ∈ WL := List.mem_filter.mpr ⟨List.mem_of_getElem? (i := 659) rfl, rfl⟩
set_option maxRecDepth 20000 in
theorem m_660 : Cond.methodLink R_La 163 y_La_route ∈ WL := List.mem_filter.mpr ⟨List.mem_of_getElem? (i := 660) rfl, rfl⟩
set_option maxRecDepth 20000 in
theorem m_661 : Cond.static y_La_route ∈ WL := List.mem_filter.mpr ⟨List.mem_of_getElem? (i := 661) rfl, rfl⟩
set_option maxRecDepth 20000 in
theorem m_663 : Cond.methodLink R_La 81 y_Cc_route ∈ WL := List.mem_filter.mpr ⟨List.mem_of_getElem? (i := 663) rfl, rfl⟩
set_option maxRecDepth 20000 in
theorem m_664 : Cond.instanceMethod y_Cc_route ∈ WL := List.mem_filter.mpr ⟨List.mem_of_getElem? (i := 664) rfl, rfl⟩
set_option maxRecDepth 20000 in
theorem m_665 : Cond.selects R_Cc y_Cc_route y_Cc_route ∈ WL := List.mem_filter.mpr ⟨List.mem_of_getElem? (i := 665) rfl, rfl⟩
set_option maxRecDepth 20000 in
theorem m_666 : Cond.code y_Cc_route b_Cc_route 3 (some .int) ∈ WL := List.mem_filter.mpr ⟨List.mem_of_getElem? (i := 666) rfl, rfl⟩
set_option maxRecDepth 20000 in
theorem m_667 : Cond.methodLink R_Cc 129 y_Jo_plan ∈ WL := List.mem_filter.mpr ⟨List.mem_of_getElem? (i := 667) rfl, rfl⟩
set_option maxRecDepth 20000 in
theorem m_668 : Cond.instanceMethod y_Jo_plan ∈ WL := List.mem_filter.mpr ⟨List.mem_of_getElem? (i := 668) rfl, rfl⟩
set_option maxRecDepth 20000 in
theorem m_669 : Cond.selects R_Jo y_Jo_plan y_Jo_plan ∈ WL := List.mem_filter.mpr ⟨List.mem_of_getElem? (i := 669) rfl, rfl⟩
set_option maxRecDepth 20000 in
theorem m_670 : Cond.code y_Jo_plan b_Jo_plan 6 (some .int) ∈ WL := List.mem_filter.mpr ⟨List.mem_of_getElem? (i := 670) rfl, rfl⟩
set_option maxRecDepth 20000 in
theorem m_671 : Cond.constant R_Jo 19 65536 ∈ WL := List.mem_filter.mpr ⟨List.mem_of_getElem? (i := 671) rfl, rfl⟩
set_option maxRecDepth 20000 in
theorem m_673 : Cond.constant R_Jo 24 65537 ∈ WL := List.mem_filter.mpr ⟨List.mem_of_getElem? (i := 673) rfl, rfl⟩
set_option maxRecDepth 20000 in
theorem m_674 : Cond.methodLink R_La 166 y_La_drop ∈ WL := List.mem_filter.mpr ⟨List.mem_of_getElem? (i := 674) rfl, rfl⟩
set_option maxRecDepth 20000 in
theorem m_675 : Cond.static y_La_drop ∈ WL := List.mem_filter.mpr ⟨List.mem_of_getElem? (i := 675) rfl, rfl⟩
set_option maxRecDepth 20000 in
theorem m_677 : Cond.methodLink R_La 84 y_Cc_drop ∈ WL := List.mem_filter.mpr ⟨List.mem_of_getElem? (i := 677) rfl, rfl⟩
set_option maxRecDepth 20000 in
theorem m_678 : Cond.instanceMethod y_Cc_drop ∈ WL := List.mem_filter.mpr ⟨List.mem_of_getElem? (i := 678) rfl, rfl⟩
set_option maxRecDepth 20000 in
theorem m_679 : Cond.selects R_Cc y_Cc_drop y_Cc_drop ∈ WL := List.mem_filter.mpr ⟨List.mem_of_getElem? (i := 679) rfl, rfl⟩
set_option maxRecDepth 20000 in
theorem m_680 : Cond.code y_Cc_drop b_Cc_drop 2 (some .int) ∈ WL := List.mem_filter.mpr ⟨List.mem_of_getElem? (i := 680) rfl, rfl⟩
set_option maxRecDepth 20000 in
theorem m_681 : Cond.methodLink R_Cc 132 y_Jo_dropOf ∈ WL := List.mem_filter.mpr ⟨List.mem_of_getElem? (i := 681) rfl, rfl⟩
set_option maxRecDepth 20000 in
theorem m_682 : Cond.instanceMethod y_Jo_dropOf ∈ WL := List.mem_filter.mpr ⟨List.mem_of_getElem? (i := 682) rfl, rfl⟩
set_option maxRecDepth 20000 in
theorem m_683 : Cond.selects R_Jo y_Jo_dropOf y_Jo_dropOf ∈ WL := List.mem_filter.mpr ⟨List.mem_of_getElem? (i := 683) rfl, rfl⟩
set_option maxRecDepth 20000 in
theorem m_684 : Cond.code y_Jo_dropOf b_Jo_dropOf 2 (some .int) ∈ WL := List.mem_filter.mpr ⟨List.mem_of_getElem? (i := 684) rfl, rfl⟩
set_option maxRecDepth 20000 in
theorem m_686 : Cond.methodLink R_La 169 y_La_count ∈ WL := List.mem_filter.mpr ⟨List.mem_of_getElem? (i := 686) rfl, rfl⟩
set_option maxRecDepth 20000 in
theorem m_687 : Cond.static y_La_count ∈ WL := List.mem_filter.mpr ⟨List.mem_of_getElem? (i := 687) rfl, rfl⟩
set_option maxRecDepth 20000 in
theorem m_689 : Cond.methodLink R_La 87 y_Cc_count ∈ WL := List.mem_filter.mpr ⟨List.mem_of_getElem? (i := 689) rfl, rfl⟩
set_option maxRecDepth 20000 in
theorem m_690 : Cond.instanceMethod y_Cc_count ∈ WL := List.mem_filter.mpr ⟨List.mem_of_getElem? (i := 690) rfl, rfl⟩
set_option maxRecDepth 20000 in
theorem m_691 : Cond.selects R_Cc y_Cc_count y_Cc_count ∈ WL := List.mem_filter.mpr ⟨List.mem_of_getElem? (i := 691) rfl, rfl⟩
set_option maxRecDepth 20000 in
theorem m_692 : Cond.code y_Cc_count b_Cc_count 2 (some .int) ∈ WL := List.mem_filter.mpr ⟨List.mem_of_getElem? (i := 692) rfl, rfl⟩
set_option maxRecDepth 20000 in
theorem m_693 : Cond.methodLink R_Cc 136 y_Sk_takenCount ∈ WL := List.mem_filter.mpr ⟨List.mem_of_getElem? (i := 693) rfl, rfl⟩
set_option maxRecDepth 20000 in
theorem m_694 : Cond.instanceMethod y_Sk_takenCount ∈ WL := List.mem_filter.mpr ⟨List.mem_of_getElem? (i := 694) rfl, rfl⟩
set_option maxRecDepth 20000 in
theorem m_695 : Cond.selects R_Sk y_Sk_takenCount y_Sk_takenCount ∈ WL := List.mem_filter.mpr ⟨List.mem_of_getElem? (i := 695) rfl, rfl⟩
set_option maxRecDepth 20000 in
theorem m_696 : Cond.code y_Sk_takenCount b_Sk_takenCount 3 (some .int) ∈ WL := List.mem_filter.mpr ⟨List.mem_of_getElem? (i := 696) rfl, rfl⟩
set_option maxRecDepth 20000 in
theorem m_698 : Cond.classLink R_La 91 R_Mo ∈ WL := List.mem_filter.mpr ⟨List.mem_of_getElem? (i := 698) rfl, rfl⟩
set_option maxRecDepth 20000 in
theorem m_699 : Cond.instantiable R_Mo 31 ∈ WL := List.mem_filter.mpr ⟨List.mem_of_getElem? (i := 699) rfl, rfl⟩
set_option maxRecDepth 20000 in
theorem m_700 : Cond.methodLink R_La 93 y_Mo_init ∈ WL := List.mem_filter.mpr ⟨List.mem_of_getElem? (i := 700) rfl, rfl⟩
set_option maxRecDepth 20000 in
theorem m_701 : Cond.instanceMethod y_Mo_init ∈ WL := List.mem_filter.mpr ⟨List.mem_of_getElem? (i := 701) rfl, rfl⟩
set_option maxRecDepth 20000 in
theorem m_702 : Cond.code y_Mo_init b_Mo_init 2 (Option.none : Option Jvm.ClassFile.FieldType) ∈ WL := List.mem_filter.mpr ⟨List.mem_of_getElem? (i := 702) rfl, rfl⟩
set_option maxRecDepth 20000 in
theorem m_703 : Cond.methodLink R_Mo 1 ⟨"java/lang/Object", "<init>", "()V"⟩ ∈ WL := List.mem_filter.mpr ⟨List.mem_of_getElem? (i := 703) rfl, rfl⟩
set_option maxRecDepth 20000 in
theorem m_704 : Cond.fieldLink R_Mo 60 R_Mo "thrown" "I" ∈ WL := List.mem_filter.mpr ⟨List.mem_of_getElem? (i := 704) rfl, rfl⟩
set_option maxRecDepth 20000 in
theorem m_705 : Cond.fieldLink R_Mo 63 R_Mo "objects" "I" ∈ WL := List.mem_filter.mpr ⟨List.mem_of_getElem? (i := 705) rfl, rfl⟩
set_option maxRecDepth 20000 in
theorem m_706 : Cond.fieldLink R_Mo 7 R_Mo "sizes" "[I" ∈ WL := List.mem_filter.mpr ⟨List.mem_of_getElem? (i := 706) rfl, rfl⟩
set_option maxRecDepth 20000 in
theorem m_707 : Cond.fieldLink R_Mo 13 R_Mo "grams" "[I" ∈ WL := List.mem_filter.mpr ⟨List.mem_of_getElem? (i := 707) rfl, rfl⟩
set_option maxRecDepth 20000 in
theorem m_708 : Cond.fieldLink R_Mo 16 R_Mo "weak" "[Z" ∈ WL := List.mem_filter.mpr ⟨List.mem_of_getElem? (i := 708) rfl, rfl⟩
set_option maxRecDepth 20000 in
theorem m_709 : Cond.fieldLink R_Mo 20 R_Mo "rows" "[I" ∈ WL := List.mem_filter.mpr ⟨List.mem_of_getElem? (i := 709) rfl, rfl⟩
set_option maxRecDepth 20000 in
theorem m_710 : Cond.fieldLink R_Mo 23 R_Mo "thick" "[I" ∈ WL := List.mem_filter.mpr ⟨List.mem_of_getElem? (i := 710) rfl, rfl⟩
set_option maxRecDepth 20000 in
theorem m_711 : Cond.fieldLink R_Mo 26 R_Mo "points" "[I" ∈ WL := List.mem_filter.mpr ⟨List.mem_of_getElem? (i := 711) rfl, rfl⟩
set_option maxRecDepth 20000 in
theorem m_712 : Cond.fieldLink R_Mo 29 R_Mo "stresses" "[I" ∈ WL := List.mem_filter.mpr ⟨List.mem_of_getElem? (i := 712) rfl, rfl⟩
set_option maxRecDepth 20000 in
theorem m_713 : Cond.fieldLink R_Mo 32 R_Mo "values" "[I" ∈ WL := List.mem_filter.mpr ⟨List.mem_of_getElem? (i := 713) rfl, rfl⟩
set_option maxRecDepth 20000 in
theorem m_714 : Cond.fieldLink R_Mo 124 R_Mo "packed" "Z" ∈ WL := List.mem_filter.mpr ⟨List.mem_of_getElem? (i := 714) rfl, rfl⟩
set_option maxRecDepth 20000 in
theorem m_715 : Cond.fieldLink R_Mo 35 R_Mo "ways" "[I" ∈ WL := List.mem_filter.mpr ⟨List.mem_of_getElem? (i := 715) rfl, rfl⟩
set_option maxRecDepth 20000 in
theorem m_716 : Cond.fieldLink R_Mo 38 R_Mo "tried" "[I" ∈ WL := List.mem_filter.mpr ⟨List.mem_of_getElem? (i := 716) rfl, rfl⟩
set_option maxRecDepth 20000 in
theorem m_717 : Cond.fieldLink R_Mo 121 R_Mo "gap" "I" ∈ WL := List.mem_filter.mpr ⟨List.mem_of_getElem? (i := 717) rfl, rfl⟩
set_option maxRecDepth 20000 in
theorem m_718 : Cond.fieldLink R_Mo 112 R_Mo "crateLength" "I" ∈ WL := List.mem_filter.mpr ⟨List.mem_of_getElem? (i := 718) rfl, rfl⟩
set_option maxRecDepth 20000 in
theorem m_719 : Cond.fieldLink R_Mo 115 R_Mo "crateWidth" "I" ∈ WL := List.mem_filter.mpr ⟨List.mem_of_getElem? (i := 719) rfl, rfl⟩
set_option maxRecDepth 20000 in
theorem m_720 : Cond.fieldLink R_Mo 118 R_Mo "crateHeight" "I" ∈ WL := List.mem_filter.mpr ⟨List.mem_of_getElem? (i := 720) rfl, rfl⟩
set_option maxRecDepth 20000 in
theorem m_721 : Cond.fieldLink R_Mo 41 R_Mo "parts" "[I" ∈ WL := List.mem_filter.mpr ⟨List.mem_of_getElem? (i := 721) rfl, rfl⟩
set_option maxRecDepth 20000 in
theorem m_722 : Cond.fieldLink R_Mo 128 R_Mo "crates" "I" ∈ WL := List.mem_filter.mpr ⟨List.mem_of_getElem? (i := 722) rfl, rfl⟩
set_option maxRecDepth 20000 in
theorem m_723 : Cond.fieldLink R_Mo 44 R_Mo "inner" "[I" ∈ WL := List.mem_filter.mpr ⟨List.mem_of_getElem? (i := 723) rfl, rfl⟩
set_option maxRecDepth 20000 in
theorem m_724 : Cond.fieldLink R_Mo 47 R_Mo "taken" "[Z" ∈ WL := List.mem_filter.mpr ⟨List.mem_of_getElem? (i := 724) rfl, rfl⟩
set_option maxRecDepth 20000 in
theorem m_725 : Cond.fieldLink R_Mo 138 R_Mo "hours" "I" ∈ WL := List.mem_filter.mpr ⟨List.mem_of_getElem? (i := 725) rfl, rfl⟩
set_option maxRecDepth 20000 in
theorem m_726 : Cond.fieldLink R_Mo 50 R_Mo "insides" "[I" ∈ WL := List.mem_filter.mpr ⟨List.mem_of_getElem? (i := 726) rfl, rfl⟩
set_option maxRecDepth 20000 in
theorem m_727 : Cond.fieldLink R_Mo 53 R_Mo "lag" "I" ∈ WL := List.mem_filter.mpr ⟨List.mem_of_getElem? (i := 727) rfl, rfl⟩
set_option maxRecDepth 20000 in
theorem m_728 : Cond.fieldLink R_Mo 141 R_Mo "peak" "I" ∈ WL := List.mem_filter.mpr ⟨List.mem_of_getElem? (i := 728) rfl, rfl⟩
set_option maxRecDepth 20000 in
theorem m_729 : Cond.fieldLink R_Mo 144 R_Mo "length" "I" ∈ WL := List.mem_filter.mpr ⟨List.mem_of_getElem? (i := 729) rfl, rfl⟩
set_option maxRecDepth 20000 in
theorem m_730 : Cond.fieldLink R_Mo 147 R_Mo "limited" "Z" ∈ WL := List.mem_filter.mpr ⟨List.mem_of_getElem? (i := 730) rfl, rfl⟩
set_option maxRecDepth 20000 in
theorem m_731 : Cond.fieldLink R_Mo 150 R_Mo "shocks" "I" ∈ WL := List.mem_filter.mpr ⟨List.mem_of_getElem? (i := 731) rfl, rfl⟩
set_option maxRecDepth 20000 in
theorem m_732 : Cond.fieldLink R_Mo 153 R_Mo "told" "I" ∈ WL := List.mem_filter.mpr ⟨List.mem_of_getElem? (i := 732) rfl, rfl⟩
set_option maxRecDepth 20000 in
theorem m_733 : Cond.fieldLink R_Mo 158 R_Mo "legs" "I" ∈ WL := List.mem_filter.mpr ⟨List.mem_of_getElem? (i := 733) rfl, rfl⟩
set_option maxRecDepth 20000 in
theorem m_734 : Cond.fieldLink R_Mo 57 R_Mo "drops" "[I" ∈ WL := List.mem_filter.mpr ⟨List.mem_of_getElem? (i := 734) rfl, rfl⟩
set_option maxRecDepth 20000 in
theorem m_798 : Cond.methodLink R_La 100 y_Mo_thrown ∈ WL := List.mem_filter.mpr ⟨List.mem_of_getElem? (i := 798) rfl, rfl⟩
set_option maxRecDepth 20000 in
theorem m_799 : Cond.instanceMethod y_Mo_thrown ∈ WL := List.mem_filter.mpr ⟨List.mem_of_getElem? (i := 799) rfl, rfl⟩
set_option maxRecDepth 20000 in
theorem m_800 : Cond.selects R_Mo y_Mo_thrown y_Mo_thrown ∈ WL := List.mem_filter.mpr ⟨List.mem_of_getElem? (i := 800) rfl, rfl⟩
set_option maxRecDepth 20000 in
theorem m_801 : Cond.code y_Mo_thrown b_Mo_thrown 1 (some .int) ∈ WL := List.mem_filter.mpr ⟨List.mem_of_getElem? (i := 801) rfl, rfl⟩
set_option maxRecDepth 20000 in
theorem m_802 : Cond.methodLink R_La 99 y_Mo_object ∈ WL := List.mem_filter.mpr ⟨List.mem_of_getElem? (i := 802) rfl, rfl⟩
set_option maxRecDepth 20000 in
theorem m_803 : Cond.instanceMethod y_Mo_object ∈ WL := List.mem_filter.mpr ⟨List.mem_of_getElem? (i := 803) rfl, rfl⟩
set_option maxRecDepth 20000 in
theorem m_804 : Cond.selects R_Mo y_Mo_object y_Mo_object ∈ WL := List.mem_filter.mpr ⟨List.mem_of_getElem? (i := 804) rfl, rfl⟩
set_option maxRecDepth 20000 in
theorem m_805 : Cond.code y_Mo_object b_Mo_object 5 (some .int) ∈ WL := List.mem_filter.mpr ⟨List.mem_of_getElem? (i := 805) rfl, rfl⟩
set_option maxRecDepth 20000 in
theorem m_806 : Cond.methodLink R_Mo 66 y_Mo_within ∈ WL := List.mem_filter.mpr ⟨List.mem_of_getElem? (i := 806) rfl, rfl⟩
set_option maxRecDepth 20000 in
theorem m_807 : Cond.static y_Mo_within ∈ WL := List.mem_filter.mpr ⟨List.mem_of_getElem? (i := 807) rfl, rfl⟩
set_option maxRecDepth 20000 in
theorem m_808 : Cond.code y_Mo_within b_Mo_within 3 (some .boolean) ∈ WL := List.mem_filter.mpr ⟨List.mem_of_getElem? (i := 808) rfl, rfl⟩
set_option maxRecDepth 20000 in
theorem m_809 : Cond.constant R_Mo 70 100000 ∈ WL := List.mem_filter.mpr ⟨List.mem_of_getElem? (i := 809) rfl, rfl⟩
set_option maxRecDepth 20000 in
theorem m_810 : Cond.methodLink R_Mo 71 y_Mo_goes ∈ WL := List.mem_filter.mpr ⟨List.mem_of_getElem? (i := 810) rfl, rfl⟩
set_option maxRecDepth 20000 in
theorem m_812 : Cond.instanceMethod y_Mo_goes ∈ WL := List.mem_filter.mpr ⟨List.mem_of_getElem? (i := 812) rfl, rfl⟩
set_option maxRecDepth 20000 in
theorem m_813 : Cond.code y_Mo_goes b_Mo_goes 4 (some .boolean) ∈ WL := List.mem_filter.mpr ⟨List.mem_of_getElem? (i := 813) rfl, rfl⟩
set_option maxRecDepth 20000 in
theorem m_814 : Cond.methodLink R_La 106 y_Mo_weak ∈ WL := List.mem_filter.mpr ⟨List.mem_of_getElem? (i := 814) rfl, rfl⟩
set_option maxRecDepth 20000 in
theorem m_815 : Cond.instanceMethod y_Mo_weak ∈ WL := List.mem_filter.mpr ⟨List.mem_of_getElem? (i := 815) rfl, rfl⟩
set_option maxRecDepth 20000 in
theorem m_816 : Cond.selects R_Mo y_Mo_weak y_Mo_weak ∈ WL := List.mem_filter.mpr ⟨List.mem_of_getElem? (i := 816) rfl, rfl⟩
set_option maxRecDepth 20000 in
theorem m_817 : Cond.code y_Mo_weak b_Mo_weak 5 (some .boolean) ∈ WL := List.mem_filter.mpr ⟨List.mem_of_getElem? (i := 817) rfl, rfl⟩
set_option maxRecDepth 20000 in
theorem m_818 : Cond.methodLink R_Mo 75 y_Mo_isObject ∈ WL := List.mem_filter.mpr ⟨List.mem_of_getElem? (i := 818) rfl, rfl⟩
set_option maxRecDepth 20000 in
theorem m_820 : Cond.instanceMethod y_Mo_isObject ∈ WL := List.mem_filter.mpr ⟨List.mem_of_getElem? (i := 820) rfl, rfl⟩
set_option maxRecDepth 20000 in
theorem m_821 : Cond.code y_Mo_isObject b_Mo_isObject 2 (some .boolean) ∈ WL := List.mem_filter.mpr ⟨List.mem_of_getElem? (i := 821) rfl, rfl⟩
set_option maxRecDepth 20000 in
theorem m_822 : Cond.methodLink R_La 110 y_Mo_foam ∈ WL := List.mem_filter.mpr ⟨List.mem_of_getElem? (i := 822) rfl, rfl⟩
set_option maxRecDepth 20000 in
theorem m_823 : Cond.instanceMethod y_Mo_foam ∈ WL := List.mem_filter.mpr ⟨List.mem_of_getElem? (i := 823) rfl, rfl⟩
set_option maxRecDepth 20000 in
theorem m_824 : Cond.selects R_Mo y_Mo_foam y_Mo_foam ∈ WL := List.mem_filter.mpr ⟨List.mem_of_getElem? (i := 824) rfl, rfl⟩
set_option maxRecDepth 20000 in
theorem m_825 : Cond.code y_Mo_foam b_Mo_foam 5 (some .int) ∈ WL := List.mem_filter.mpr ⟨List.mem_of_getElem? (i := 825) rfl, rfl⟩
set_option maxRecDepth 20000 in
theorem m_826 : Cond.methodLink R_La 113 y_Mo_point ∈ WL := List.mem_filter.mpr ⟨List.mem_of_getElem? (i := 826) rfl, rfl⟩
set_option maxRecDepth 20000 in
theorem m_827 : Cond.instanceMethod y_Mo_point ∈ WL := List.mem_filter.mpr ⟨List.mem_of_getElem? (i := 827) rfl, rfl⟩
set_option maxRecDepth 20000 in
theorem m_828 : Cond.selects R_Mo y_Mo_point y_Mo_point ∈ WL := List.mem_filter.mpr ⟨List.mem_of_getElem? (i := 828) rfl, rfl⟩
set_option maxRecDepth 20000 in
theorem m_829 : Cond.code y_Mo_point b_Mo_point 9 (some .int) ∈ WL := List.mem_filter.mpr ⟨List.mem_of_getElem? (i := 829) rfl, rfl⟩
set_option maxRecDepth 20000 in
theorem m_830 : Cond.methodLink R_Mo 79 y_Mo_isRow ∈ WL := List.mem_filter.mpr ⟨List.mem_of_getElem? (i := 830) rfl, rfl⟩
set_option maxRecDepth 20000 in
theorem m_832 : Cond.instanceMethod y_Mo_isRow ∈ WL := List.mem_filter.mpr ⟨List.mem_of_getElem? (i := 832) rfl, rfl⟩
set_option maxRecDepth 20000 in
theorem m_833 : Cond.code y_Mo_isRow b_Mo_isRow 3 (some .boolean) ∈ WL := List.mem_filter.mpr ⟨List.mem_of_getElem? (i := 833) rfl, rfl⟩
set_option maxRecDepth 20000 in
theorem m_834 : Cond.methodLink R_La 117 y_Mo_value ∈ WL := List.mem_filter.mpr ⟨List.mem_of_getElem? (i := 834) rfl, rfl⟩
set_option maxRecDepth 20000 in
theorem m_835 : Cond.instanceMethod y_Mo_value ∈ WL := List.mem_filter.mpr ⟨List.mem_of_getElem? (i := 835) rfl, rfl⟩
set_option maxRecDepth 20000 in
theorem m_836 : Cond.selects R_Mo y_Mo_value y_Mo_value ∈ WL := List.mem_filter.mpr ⟨List.mem_of_getElem? (i := 836) rfl, rfl⟩
set_option maxRecDepth 20000 in
theorem m_837 : Cond.code y_Mo_value b_Mo_value 4 (some .int) ∈ WL := List.mem_filter.mpr ⟨List.mem_of_getElem? (i := 837) rfl, rfl⟩
set_option maxRecDepth 20000 in
theorem m_838 : Cond.methodLink R_Mo 87 y_Mo_valueOf ∈ WL := List.mem_filter.mpr ⟨List.mem_of_getElem? (i := 838) rfl, rfl⟩
set_option maxRecDepth 20000 in
theorem m_840 : Cond.instanceMethod y_Mo_valueOf ∈ WL := List.mem_filter.mpr ⟨List.mem_of_getElem? (i := 840) rfl, rfl⟩
set_option maxRecDepth 20000 in
theorem m_841 : Cond.code y_Mo_valueOf b_Mo_valueOf 4 (some .int) ∈ WL := List.mem_filter.mpr ⟨List.mem_of_getElem? (i := 841) rfl, rfl⟩
set_option maxRecDepth 20000 in
theorem m_842 : Cond.methodLink R_Mo 83 y_Mo_up ∈ WL := List.mem_filter.mpr ⟨List.mem_of_getElem? (i := 842) rfl, rfl⟩
set_option maxRecDepth 20000 in
theorem m_843 : Cond.static y_Mo_up ∈ WL := List.mem_filter.mpr ⟨List.mem_of_getElem? (i := 843) rfl, rfl⟩
set_option maxRecDepth 20000 in
theorem m_844 : Cond.code y_Mo_up b_Mo_up 3 (some .int) ∈ WL := List.mem_filter.mpr ⟨List.mem_of_getElem? (i := 844) rfl, rfl⟩
set_option maxRecDepth 20000 in
theorem m_845 : Cond.methodLink R_La 120 y_Mo_thickness ∈ WL := List.mem_filter.mpr ⟨List.mem_of_getElem? (i := 845) rfl, rfl⟩
set_option maxRecDepth 20000 in
theorem m_846 : Cond.instanceMethod y_Mo_thickness ∈ WL := List.mem_filter.mpr ⟨List.mem_of_getElem? (i := 846) rfl, rfl⟩
set_option maxRecDepth 20000 in
theorem m_847 : Cond.selects R_Mo y_Mo_thickness y_Mo_thickness ∈ WL := List.mem_filter.mpr ⟨List.mem_of_getElem? (i := 847) rfl, rfl⟩
set_option maxRecDepth 20000 in
theorem m_848 : Cond.code y_Mo_thickness b_Mo_thickness 9 (some .int) ∈ WL := List.mem_filter.mpr ⟨List.mem_of_getElem? (i := 848) rfl, rfl⟩
set_option maxRecDepth 20000 in
theorem m_849 : Cond.methodLink R_La 123 y_Mo_pack ∈ WL := List.mem_filter.mpr ⟨List.mem_of_getElem? (i := 849) rfl, rfl⟩
set_option maxRecDepth 20000 in
theorem m_850 : Cond.instanceMethod y_Mo_pack ∈ WL := List.mem_filter.mpr ⟨List.mem_of_getElem? (i := 850) rfl, rfl⟩
set_option maxRecDepth 20000 in
theorem m_851 : Cond.selects R_Mo y_Mo_pack y_Mo_pack ∈ WL := List.mem_filter.mpr ⟨List.mem_of_getElem? (i := 851) rfl, rfl⟩
set_option maxRecDepth 20000 in
theorem m_852 : Cond.code y_Mo_pack b_Mo_pack 11 (some .int) ∈ WL := List.mem_filter.mpr ⟨List.mem_of_getElem? (i := 852) rfl, rfl⟩
set_option maxRecDepth 20000 in
theorem m_853 : Cond.methodLink R_Mo 90 y_Mo_isIn ∈ WL := List.mem_filter.mpr ⟨List.mem_of_getElem? (i := 853) rfl, rfl⟩
set_option maxRecDepth 20000 in
theorem m_854 : Cond.static y_Mo_isIn ∈ WL := List.mem_filter.mpr ⟨List.mem_of_getElem? (i := 854) rfl, rfl⟩
set_option maxRecDepth 20000 in
theorem m_855 : Cond.code y_Mo_isIn b_Mo_isIn 2 (some .boolean) ∈ WL := List.mem_filter.mpr ⟨List.mem_of_getElem? (i := 855) rfl, rfl⟩
set_option maxRecDepth 20000 in
theorem m_856 : Cond.constantLong R_Mo 97 (-1) ∈ WL := List.mem_filter.mpr ⟨List.mem_of_getElem? (i := 856) rfl, rfl⟩
set_option maxRecDepth 20000 in
theorem m_857 : Cond.methodLink R_Mo 99 y_Mo_turn ∈ WL := List.mem_filter.mpr ⟨List.mem_of_getElem? (i := 857) rfl, rfl⟩
set_option maxRecDepth 20000 in
theorem m_859 : Cond.instanceMethod y_Mo_turn ∈ WL := List.mem_filter.mpr ⟨List.mem_of_getElem? (i := 859) rfl, rfl⟩
set_option maxRecDepth 20000 in
theorem m_860 : Cond.code y_Mo_turn b_Mo_turn 5 (Option.none : Option Jvm.ClassFile.FieldType) ∈ WL := List.mem_filter.mpr ⟨List.mem_of_getElem? (i := 860) rfl, rfl⟩
set_option maxRecDepth 20000 in
theorem m_861 : Cond.methodLink R_Mo 103 y_Mo_stands ∈ WL := List.mem_filter.mpr ⟨List.mem_of_getElem? (i := 861) rfl, rfl⟩
set_option maxRecDepth 20000 in
theorem m_863 : Cond.instanceMethod y_Mo_stands ∈ WL := List.mem_filter.mpr ⟨List.mem_of_getElem? (i := 863) rfl, rfl⟩
set_option maxRecDepth 20000 in
theorem m_864 : Cond.code y_Mo_stands b_Mo_stands 4 (some .boolean) ∈ WL := List.mem_filter.mpr ⟨List.mem_of_getElem? (i := 864) rfl, rfl⟩
set_option maxRecDepth 20000 in
theorem m_865 : Cond.methodLink R_Mo 106 y_Mo_lengthOf ∈ WL := List.mem_filter.mpr ⟨List.mem_of_getElem? (i := 865) rfl, rfl⟩
set_option maxRecDepth 20000 in
theorem m_867 : Cond.instanceMethod y_Mo_lengthOf ∈ WL := List.mem_filter.mpr ⟨List.mem_of_getElem? (i := 867) rfl, rfl⟩
set_option maxRecDepth 20000 in
theorem m_868 : Cond.code y_Mo_lengthOf b_Mo_lengthOf 5 (some .int) ∈ WL := List.mem_filter.mpr ⟨List.mem_of_getElem? (i := 868) rfl, rfl⟩
set_option maxRecDepth 20000 in
theorem m_869 : Cond.methodLink R_Mo 93 y_Mo_along ∈ WL := List.mem_filter.mpr ⟨List.mem_of_getElem? (i := 869) rfl, rfl⟩
set_option maxRecDepth 20000 in
theorem m_871 : Cond.instanceMethod y_Mo_along ∈ WL := List.mem_filter.mpr ⟨List.mem_of_getElem? (i := 871) rfl, rfl⟩
set_option maxRecDepth 20000 in
theorem m_872 : Cond.code y_Mo_along b_Mo_along 6 (some .int) ∈ WL := List.mem_filter.mpr ⟨List.mem_of_getElem? (i := 872) rfl, rfl⟩
set_option maxRecDepth 20000 in
theorem m_873 : Cond.methodLink R_Mo 109 y_Mo_widest ∈ WL := List.mem_filter.mpr ⟨List.mem_of_getElem? (i := 873) rfl, rfl⟩
set_option maxRecDepth 20000 in
theorem m_875 : Cond.instanceMethod y_Mo_widest ∈ WL := List.mem_filter.mpr ⟨List.mem_of_getElem? (i := 875) rfl, rfl⟩
set_option maxRecDepth 20000 in
theorem m_876 : Cond.code y_Mo_widest b_Mo_widest 7 (some .int) ∈ WL := List.mem_filter.mpr ⟨List.mem_of_getElem? (i := 876) rfl, rfl⟩
set_option maxRecDepth 20000 in
theorem m_877 : Cond.methodLink R_La 127 y_Mo_size ∈ WL := List.mem_filter.mpr ⟨List.mem_of_getElem? (i := 877) rfl, rfl⟩
set_option maxRecDepth 20000 in
theorem m_878 : Cond.instanceMethod y_Mo_size ∈ WL := List.mem_filter.mpr ⟨List.mem_of_getElem? (i := 878) rfl, rfl⟩
set_option maxRecDepth 20000 in
theorem m_879 : Cond.selects R_Mo y_Mo_size y_Mo_size ∈ WL := List.mem_filter.mpr ⟨List.mem_of_getElem? (i := 879) rfl, rfl⟩
set_option maxRecDepth 20000 in
theorem m_880 : Cond.code y_Mo_size b_Mo_size 2 (some .int) ∈ WL := List.mem_filter.mpr ⟨List.mem_of_getElem? (i := 880) rfl, rfl⟩
set_option maxRecDepth 20000 in
theorem m_881 : Cond.methodLink R_La 130 y_Mo_at ∈ WL := List.mem_filter.mpr ⟨List.mem_of_getElem? (i := 881) rfl, rfl⟩
set_option maxRecDepth 20000 in
theorem m_882 : Cond.instanceMethod y_Mo_at ∈ WL := List.mem_filter.mpr ⟨List.mem_of_getElem? (i := 882) rfl, rfl⟩
set_option maxRecDepth 20000 in
theorem m_883 : Cond.selects R_Mo y_Mo_at y_Mo_at ∈ WL := List.mem_filter.mpr ⟨List.mem_of_getElem? (i := 883) rfl, rfl⟩
set_option maxRecDepth 20000 in
theorem m_884 : Cond.code y_Mo_at b_Mo_at 5 (some .int) ∈ WL := List.mem_filter.mpr ⟨List.mem_of_getElem? (i := 884) rfl, rfl⟩
set_option maxRecDepth 20000 in
theorem m_885 : Cond.methodLink R_La 133 y_Mo_crate ∈ WL := List.mem_filter.mpr ⟨List.mem_of_getElem? (i := 885) rfl, rfl⟩
set_option maxRecDepth 20000 in
theorem m_886 : Cond.instanceMethod y_Mo_crate ∈ WL := List.mem_filter.mpr ⟨List.mem_of_getElem? (i := 886) rfl, rfl⟩
set_option maxRecDepth 20000 in
theorem m_887 : Cond.selects R_Mo y_Mo_crate y_Mo_crate ∈ WL := List.mem_filter.mpr ⟨List.mem_of_getElem? (i := 887) rfl, rfl⟩
set_option maxRecDepth 20000 in
theorem m_888 : Cond.code y_Mo_crate b_Mo_crate 4 (some .int) ∈ WL := List.mem_filter.mpr ⟨List.mem_of_getElem? (i := 888) rfl, rfl⟩
set_option maxRecDepth 20000 in
theorem m_889 : Cond.methodLink R_La 137 y_Mo_match ∈ WL := List.mem_filter.mpr ⟨List.mem_of_getElem? (i := 889) rfl, rfl⟩
set_option maxRecDepth 20000 in
theorem m_890 : Cond.instanceMethod y_Mo_match ∈ WL := List.mem_filter.mpr ⟨List.mem_of_getElem? (i := 890) rfl, rfl⟩
set_option maxRecDepth 20000 in
theorem m_891 : Cond.selects R_Mo y_Mo_match y_Mo_match ∈ WL := List.mem_filter.mpr ⟨List.mem_of_getElem? (i := 891) rfl, rfl⟩
set_option maxRecDepth 20000 in
theorem m_892 : Cond.code y_Mo_match b_Mo_match 7 (some .int) ∈ WL := List.mem_filter.mpr ⟨List.mem_of_getElem? (i := 892) rfl, rfl⟩
set_option maxRecDepth 20000 in
theorem m_893 : Cond.methodLink R_Mo 131 y_Mo_hasRoom ∈ WL := List.mem_filter.mpr ⟨List.mem_of_getElem? (i := 893) rfl, rfl⟩
set_option maxRecDepth 20000 in
theorem m_895 : Cond.instanceMethod y_Mo_hasRoom ∈ WL := List.mem_filter.mpr ⟨List.mem_of_getElem? (i := 895) rfl, rfl⟩
set_option maxRecDepth 20000 in
theorem m_896 : Cond.code y_Mo_hasRoom b_Mo_hasRoom 6 (some .boolean) ∈ WL := List.mem_filter.mpr ⟨List.mem_of_getElem? (i := 896) rfl, rfl⟩
set_option maxRecDepth 20000 in
theorem m_897 : Cond.methodLink R_La 140 y_Mo_free ∈ WL := List.mem_filter.mpr ⟨List.mem_of_getElem? (i := 897) rfl, rfl⟩
set_option maxRecDepth 20000 in
theorem m_898 : Cond.instanceMethod y_Mo_free ∈ WL := List.mem_filter.mpr ⟨List.mem_of_getElem? (i := 898) rfl, rfl⟩
set_option maxRecDepth 20000 in
theorem m_899 : Cond.selects R_Mo y_Mo_free y_Mo_free ∈ WL := List.mem_filter.mpr ⟨List.mem_of_getElem? (i := 899) rfl, rfl⟩
set_option maxRecDepth 20000 in
theorem m_900 : Cond.code y_Mo_free b_Mo_free 3 (some .boolean) ∈ WL := List.mem_filter.mpr ⟨List.mem_of_getElem? (i := 900) rfl, rfl⟩
set_option maxRecDepth 20000 in
theorem m_901 : Cond.methodLink R_La 143 y_Mo_split ∈ WL := List.mem_filter.mpr ⟨List.mem_of_getElem? (i := 901) rfl, rfl⟩
set_option maxRecDepth 20000 in
theorem m_902 : Cond.instanceMethod y_Mo_split ∈ WL := List.mem_filter.mpr ⟨List.mem_of_getElem? (i := 902) rfl, rfl⟩
set_option maxRecDepth 20000 in
theorem m_903 : Cond.selects R_Mo y_Mo_split y_Mo_split ∈ WL := List.mem_filter.mpr ⟨List.mem_of_getElem? (i := 903) rfl, rfl⟩
set_option maxRecDepth 20000 in
theorem m_904 : Cond.code y_Mo_split b_Mo_split 6 (some .int) ∈ WL := List.mem_filter.mpr ⟨List.mem_of_getElem? (i := 904) rfl, rfl⟩
set_option maxRecDepth 20000 in
theorem m_905 : Cond.methodLink R_Mo 134 y_Mo_weight ∈ WL := List.mem_filter.mpr ⟨List.mem_of_getElem? (i := 905) rfl, rfl⟩
set_option maxRecDepth 20000 in
theorem m_907 : Cond.instanceMethod y_Mo_weight ∈ WL := List.mem_filter.mpr ⟨List.mem_of_getElem? (i := 907) rfl, rfl⟩
set_option maxRecDepth 20000 in
theorem m_908 : Cond.code y_Mo_weight b_Mo_weight 4 (some .int) ∈ WL := List.mem_filter.mpr ⟨List.mem_of_getElem? (i := 908) rfl, rfl⟩
set_option maxRecDepth 20000 in
theorem m_909 : Cond.methodLink R_La 146 y_Mo_lag ∈ WL := List.mem_filter.mpr ⟨List.mem_of_getElem? (i := 909) rfl, rfl⟩
set_option maxRecDepth 20000 in
theorem m_910 : Cond.instanceMethod y_Mo_lag ∈ WL := List.mem_filter.mpr ⟨List.mem_of_getElem? (i := 910) rfl, rfl⟩
set_option maxRecDepth 20000 in
theorem m_911 : Cond.selects R_Mo y_Mo_lag y_Mo_lag ∈ WL := List.mem_filter.mpr ⟨List.mem_of_getElem? (i := 911) rfl, rfl⟩
set_option maxRecDepth 20000 in
theorem m_912 : Cond.code y_Mo_lag b_Mo_lag 3 (some .int) ∈ WL := List.mem_filter.mpr ⟨List.mem_of_getElem? (i := 912) rfl, rfl⟩
set_option maxRecDepth 20000 in
theorem m_913 : Cond.methodLink R_La 149 y_Mo_climate ∈ WL := List.mem_filter.mpr ⟨List.mem_of_getElem? (i := 913) rfl, rfl⟩
set_option maxRecDepth 20000 in
theorem m_914 : Cond.instanceMethod y_Mo_climate ∈ WL := List.mem_filter.mpr ⟨List.mem_of_getElem? (i := 914) rfl, rfl⟩
set_option maxRecDepth 20000 in
theorem m_915 : Cond.selects R_Mo y_Mo_climate y_Mo_climate ∈ WL := List.mem_filter.mpr ⟨List.mem_of_getElem? (i := 915) rfl, rfl⟩
set_option maxRecDepth 20000 in
theorem m_916 : Cond.code y_Mo_climate b_Mo_climate 3 (some .int) ∈ WL := List.mem_filter.mpr ⟨List.mem_of_getElem? (i := 916) rfl, rfl⟩
set_option maxRecDepth 20000 in
theorem m_917 : Cond.methodLink R_La 152 y_Mo_inside ∈ WL := List.mem_filter.mpr ⟨List.mem_of_getElem? (i := 917) rfl, rfl⟩
set_option maxRecDepth 20000 in
theorem m_918 : Cond.instanceMethod y_Mo_inside ∈ WL := List.mem_filter.mpr ⟨List.mem_of_getElem? (i := 918) rfl, rfl⟩
set_option maxRecDepth 20000 in
theorem m_919 : Cond.selects R_Mo y_Mo_inside y_Mo_inside ∈ WL := List.mem_filter.mpr ⟨List.mem_of_getElem? (i := 919) rfl, rfl⟩
set_option maxRecDepth 20000 in
theorem m_920 : Cond.code y_Mo_inside b_Mo_inside 2 (some .int) ∈ WL := List.mem_filter.mpr ⟨List.mem_of_getElem? (i := 920) rfl, rfl⟩
set_option maxRecDepth 20000 in
theorem m_921 : Cond.methodLink R_La 155 y_Mo_steady ∈ WL := List.mem_filter.mpr ⟨List.mem_of_getElem? (i := 921) rfl, rfl⟩
set_option maxRecDepth 20000 in
theorem m_922 : Cond.instanceMethod y_Mo_steady ∈ WL := List.mem_filter.mpr ⟨List.mem_of_getElem? (i := 922) rfl, rfl⟩
set_option maxRecDepth 20000 in
theorem m_923 : Cond.selects R_Mo y_Mo_steady y_Mo_steady ∈ WL := List.mem_filter.mpr ⟨List.mem_of_getElem? (i := 923) rfl, rfl⟩
set_option maxRecDepth 20000 in
theorem m_924 : Cond.code y_Mo_steady b_Mo_steady 6 (some .int) ∈ WL := List.mem_filter.mpr ⟨List.mem_of_getElem? (i := 924) rfl, rfl⟩
set_option maxRecDepth 20000 in
theorem m_925 : Cond.methodLink R_La 159 y_Mo_limit ∈ WL := List.mem_filter.mpr ⟨List.mem_of_getElem? (i := 925) rfl, rfl⟩
set_option maxRecDepth 20000 in
theorem m_926 : Cond.instanceMethod y_Mo_limit ∈ WL := List.mem_filter.mpr ⟨List.mem_of_getElem? (i := 926) rfl, rfl⟩
set_option maxRecDepth 20000 in
theorem m_927 : Cond.selects R_Mo y_Mo_limit y_Mo_limit ∈ WL := List.mem_filter.mpr ⟨List.mem_of_getElem? (i := 927) rfl, rfl⟩
set_option maxRecDepth 20000 in
theorem m_928 : Cond.code y_Mo_limit b_Mo_limit 3 (Option.none : Option Jvm.ClassFile.FieldType) ∈ WL := List.mem_filter.mpr ⟨List.mem_of_getElem? (i := 928) rfl, rfl⟩
set_option maxRecDepth 20000 in
theorem m_929 : Cond.methodLink R_La 162 y_Mo_shock ∈ WL := List.mem_filter.mpr ⟨List.mem_of_getElem? (i := 929) rfl, rfl⟩
set_option maxRecDepth 20000 in
theorem m_930 : Cond.instanceMethod y_Mo_shock ∈ WL := List.mem_filter.mpr ⟨List.mem_of_getElem? (i := 930) rfl, rfl⟩
set_option maxRecDepth 20000 in
theorem m_931 : Cond.selects R_Mo y_Mo_shock y_Mo_shock ∈ WL := List.mem_filter.mpr ⟨List.mem_of_getElem? (i := 931) rfl, rfl⟩
set_option maxRecDepth 20000 in
theorem m_932 : Cond.code y_Mo_shock b_Mo_shock 4 (some .boolean) ∈ WL := List.mem_filter.mpr ⟨List.mem_of_getElem? (i := 932) rfl, rfl⟩
set_option maxRecDepth 20000 in
theorem m_933 : Cond.methodLink R_La 165 y_Mo_route ∈ WL := List.mem_filter.mpr ⟨List.mem_of_getElem? (i := 933) rfl, rfl⟩
set_option maxRecDepth 20000 in
theorem m_934 : Cond.instanceMethod y_Mo_route ∈ WL := List.mem_filter.mpr ⟨List.mem_of_getElem? (i := 934) rfl, rfl⟩
set_option maxRecDepth 20000 in
theorem m_935 : Cond.selects R_Mo y_Mo_route y_Mo_route ∈ WL := List.mem_filter.mpr ⟨List.mem_of_getElem? (i := 935) rfl, rfl⟩
set_option maxRecDepth 20000 in
theorem m_936 : Cond.code y_Mo_route b_Mo_route 6 (some .int) ∈ WL := List.mem_filter.mpr ⟨List.mem_of_getElem? (i := 936) rfl, rfl⟩
set_option maxRecDepth 20000 in
theorem m_937 : Cond.constant R_Mo 156 65536 ∈ WL := List.mem_filter.mpr ⟨List.mem_of_getElem? (i := 937) rfl, rfl⟩
set_option maxRecDepth 20000 in
theorem m_938 : Cond.constant R_Mo 157 65537 ∈ WL := List.mem_filter.mpr ⟨List.mem_of_getElem? (i := 938) rfl, rfl⟩
set_option maxRecDepth 20000 in
theorem m_939 : Cond.methodLink R_La 168 y_Mo_drop ∈ WL := List.mem_filter.mpr ⟨List.mem_of_getElem? (i := 939) rfl, rfl⟩
set_option maxRecDepth 20000 in
theorem m_940 : Cond.instanceMethod y_Mo_drop ∈ WL := List.mem_filter.mpr ⟨List.mem_of_getElem? (i := 940) rfl, rfl⟩
set_option maxRecDepth 20000 in
theorem m_941 : Cond.selects R_Mo y_Mo_drop y_Mo_drop ∈ WL := List.mem_filter.mpr ⟨List.mem_of_getElem? (i := 941) rfl, rfl⟩
set_option maxRecDepth 20000 in
theorem m_942 : Cond.code y_Mo_drop b_Mo_drop 2 (some .int) ∈ WL := List.mem_filter.mpr ⟨List.mem_of_getElem? (i := 942) rfl, rfl⟩
set_option maxRecDepth 20000 in
theorem m_943 : Cond.methodLink R_La 171 y_Mo_count ∈ WL := List.mem_filter.mpr ⟨List.mem_of_getElem? (i := 943) rfl, rfl⟩
set_option maxRecDepth 20000 in
theorem m_944 : Cond.instanceMethod y_Mo_count ∈ WL := List.mem_filter.mpr ⟨List.mem_of_getElem? (i := 944) rfl, rfl⟩
set_option maxRecDepth 20000 in
theorem m_945 : Cond.selects R_Mo y_Mo_count y_Mo_count ∈ WL := List.mem_filter.mpr ⟨List.mem_of_getElem? (i := 945) rfl, rfl⟩
set_option maxRecDepth 20000 in
theorem m_946 : Cond.code y_Mo_count b_Mo_count 4 (some .int) ∈ WL := List.mem_filter.mpr ⟨List.mem_of_getElem? (i := 946) rfl, rfl⟩
set_option maxRecDepth 20000 in
theorem m_947 : Cond.arrayClass FieldType.long ∈ WL := List.mem_filter.mpr ⟨List.mem_of_getElem? (i := 947) rfl, rfl⟩
end
section
theorem d_Cc_init_0 : decode b_Cc_init 0 = .ok (.aload_n 0, 1) := by decide +kernel
theorem d_Cc_init_1 : decode b_Cc_init 1 = .ok (.invokespecial 1, 3) := by decide +kernel
theorem d_Cc_init_4 : decode b_Cc_init 4 = .ok (.aload_n 0, 1) := by decide +kernel
theorem d_Cc_init_5 : decode b_Cc_init 5 = .ok (.new 7, 3) := by decide +kernel
theorem d_Cc_init_8 : decode b_Cc_init 8 = .ok (.dup, 1) := by decide +kernel
theorem d_Cc_init_9 : decode b_Cc_init 9 = .ok (.invokespecial 9, 3) := by decide +kernel
theorem d_Cc_init_12 : decode b_Cc_init 12 = .ok (.putfield 10, 3) := by decide +kernel
theorem d_Cc_init_15 : decode b_Cc_init 15 = .ok (.aload_n 0, 1) := by decide +kernel
theorem d_Cc_init_16 : decode b_Cc_init 16 = .ok (.new 16, 3) := by decide +kernel
theorem d_Cc_init_19 : decode b_Cc_init 19 = .ok (.dup, 1) := by decide +kernel
theorem d_Cc_init_20 : decode b_Cc_init 20 = .ok (.invokespecial 18, 3) := by decide +kernel
theorem d_Cc_init_23 : decode b_Cc_init 23 = .ok (.putfield 19, 3) := by decide +kernel
theorem d_Cc_init_26 : decode b_Cc_init 26 = .ok (.aload_n 0, 1) := by decide +kernel
theorem d_Cc_init_27 : decode b_Cc_init 27 = .ok (.new 23, 3) := by decide +kernel
theorem d_Cc_init_30 : decode b_Cc_init 30 = .ok (.dup, 1) := by decide +kernel
theorem d_Cc_init_31 : decode b_Cc_init 31 = .ok (.invokespecial 25, 3) := by decide +kernel
theorem d_Cc_init_34 : decode b_Cc_init 34 = .ok (.putfield 26, 3) := by decide +kernel
theorem d_Cc_init_37 : decode b_Cc_init 37 = .ok (.aload_n 0, 1) := by decide +kernel
theorem d_Cc_init_38 : decode b_Cc_init 38 = .ok (.new 30, 3) := by decide +kernel
theorem d_Cc_init_41 : decode b_Cc_init 41 = .ok (.dup, 1) := by decide +kernel
theorem d_Cc_init_42 : decode b_Cc_init 42 = .ok (.invokespecial 32, 3) := by decide +kernel
theorem d_Cc_init_45 : decode b_Cc_init 45 = .ok (.putfield 33, 3) := by decide +kernel
theorem d_Cc_init_48 : decode b_Cc_init 48 = .ok (.aload_n 0, 1) := by decide +kernel
theorem d_Cc_init_49 : decode b_Cc_init 49 = .ok (.new 37, 3) := by decide +kernel
theorem d_Cc_init_52 : decode b_Cc_init 52 = .ok (.dup, 1) := by decide +kernel
theorem d_Cc_init_53 : decode b_Cc_init 53 = .ok (.invokespecial 39, 3) := by decide +kernel
theorem d_Cc_init_56 : decode b_Cc_init 56 = .ok (.putfield 40, 3) := by decide +kernel
theorem d_Cc_init_59 : decode b_Cc_init 59 = .ok (.aload_n 0, 1) := by decide +kernel
theorem d_Cc_init_60 : decode b_Cc_init 60 = .ok (.new 44, 3) := by decide +kernel
theorem d_Cc_init_63 : decode b_Cc_init 63 = .ok (.dup, 1) := by decide +kernel
theorem d_Cc_init_64 : decode b_Cc_init 64 = .ok (.invokespecial 46, 3) := by decide +kernel
theorem d_Cc_init_67 : decode b_Cc_init 67 = .ok (.putfield 47, 3) := by decide +kernel
theorem d_Cc_init_70 : decode b_Cc_init 70 = .ok (.aload_n 0, 1) := by decide +kernel
theorem d_Cc_init_71 : decode b_Cc_init 71 = .ok (.new 51, 3) := by decide +kernel
theorem d_Cc_init_74 : decode b_Cc_init 74 = .ok (.dup, 1) := by decide +kernel
theorem d_Cc_init_75 : decode b_Cc_init 75 = .ok (.invokespecial 53, 3) := by decide +kernel
theorem d_Cc_init_78 : decode b_Cc_init 78 = .ok (.putfield 54, 3) := by decide +kernel
theorem d_Cc_init_81 : decode b_Cc_init 81 = .ok (.return_, 1) := by decide +kernel
theorem d_Go_init_0 : decode b_Go_init 0 = .ok (.aload_n 0, 1) := by decide +kernel
theorem d_Go_init_1 : decode b_Go_init 1 = .ok (.invokespecial 3, 3) := by decide +kernel
theorem d_Go_init_4 : decode b_Go_init 4 = .ok (.aload_n 0, 1) := by decide +kernel
theorem d_Go_init_5 : decode b_Go_init 5 = .ok (.bipush 18, 2) := by decide +kernel
theorem d_Go_init_7 : decode b_Go_init 7 = .ok (.newarray .int, 2) := by decide +kernel
theorem d_Go_init_9 : decode b_Go_init 9 = .ok (.putfield 9, 3) := by decide +kernel
theorem d_Go_init_12 : decode b_Go_init 12 = .ok (.aload_n 0, 1) := by decide +kernel
theorem d_Go_init_13 : decode b_Go_init 13 = .ok (.bipush 6, 2) := by decide +kernel
theorem d_Go_init_15 : decode b_Go_init 15 = .ok (.newarray .int, 2) := by decide +kernel
theorem d_Go_init_17 : decode b_Go_init 17 = .ok (.putfield 15, 3) := by decide +kernel
theorem d_Go_init_20 : decode b_Go_init 20 = .ok (.aload_n 0, 1) := by decide +kernel
theorem d_Go_init_21 : decode b_Go_init 21 = .ok (.bipush 6, 2) := by decide +kernel
theorem d_Go_init_23 : decode b_Go_init 23 = .ok (.newarray .int, 2) := by decide +kernel
theorem d_Go_init_25 : decode b_Go_init 25 = .ok (.putfield 18, 3) := by decide +kernel
theorem d_Go_init_28 : decode b_Go_init 28 = .ok (.aload_n 0, 1) := by decide +kernel
theorem d_Go_init_29 : decode b_Go_init 29 = .ok (.bipush 64, 2) := by decide +kernel
theorem d_Go_init_31 : decode b_Go_init 31 = .ok (.newarray .int, 2) := by decide +kernel
theorem d_Go_init_33 : decode b_Go_init 33 = .ok (.putfield 21, 3) := by decide +kernel
theorem d_Go_init_36 : decode b_Go_init 36 = .ok (.aload_n 0, 1) := by decide +kernel
theorem d_Go_init_37 : decode b_Go_init 37 = .ok (.bipush 64, 2) := by decide +kernel
theorem d_Go_init_39 : decode b_Go_init 39 = .ok (.newarray .int, 2) := by decide +kernel
theorem d_Go_init_41 : decode b_Go_init 41 = .ok (.putfield 24, 3) := by decide +kernel
theorem d_Go_init_44 : decode b_Go_init 44 = .ok (.aload_n 0, 1) := by decide +kernel
theorem d_Go_init_45 : decode b_Go_init 45 = .ok (.iconst 0, 1) := by decide +kernel
theorem d_Go_init_46 : decode b_Go_init 46 = .ok (.putfield 27, 3) := by decide +kernel
theorem d_Go_init_49 : decode b_Go_init 49 = .ok (.return_, 1) := by decide +kernel
theorem d_Fo_init_0 : decode b_Fo_init 0 = .ok (.aload_n 0, 1) := by decide +kernel
theorem d_Fo_init_1 : decode b_Fo_init 1 = .ok (.invokespecial 3, 3) := by decide +kernel
theorem d_Fo_init_4 : decode b_Fo_init 4 = .ok (.aload_n 0, 1) := by decide +kernel
theorem d_Fo_init_5 : decode b_Fo_init 5 = .ok (.iconst 4, 1) := by decide +kernel
theorem d_Fo_init_6 : decode b_Fo_init 6 = .ok (.newarray .int, 2) := by decide +kernel
theorem d_Fo_init_8 : decode b_Fo_init 8 = .ok (.putfield 9, 3) := by decide +kernel
theorem d_Fo_init_11 : decode b_Fo_init 11 = .ok (.aload_n 0, 1) := by decide +kernel
theorem d_Fo_init_12 : decode b_Fo_init 12 = .ok (.bipush 32, 2) := by decide +kernel
theorem d_Fo_init_14 : decode b_Fo_init 14 = .ok (.newarray .int, 2) := by decide +kernel
theorem d_Fo_init_16 : decode b_Fo_init 16 = .ok (.putfield 15, 3) := by decide +kernel
theorem d_Fo_init_19 : decode b_Fo_init 19 = .ok (.aload_n 0, 1) := by decide +kernel
theorem d_Fo_init_20 : decode b_Fo_init 20 = .ok (.bipush 32, 2) := by decide +kernel
theorem d_Fo_init_22 : decode b_Fo_init 22 = .ok (.newarray .int, 2) := by decide +kernel
theorem d_Fo_init_24 : decode b_Fo_init 24 = .ok (.putfield 18, 3) := by decide +kernel
theorem d_Fo_init_27 : decode b_Fo_init 27 = .ok (.aload_n 0, 1) := by decide +kernel
theorem d_Fo_init_28 : decode b_Fo_init 28 = .ok (.sipush 192, 3) := by decide +kernel
theorem d_Fo_init_31 : decode b_Fo_init 31 = .ok (.newarray .int, 2) := by decide +kernel
theorem d_Fo_init_33 : decode b_Fo_init 33 = .ok (.putfield 21, 3) := by decide +kernel
theorem d_Fo_init_36 : decode b_Fo_init 36 = .ok (.aload_n 0, 1) := by decide +kernel
theorem d_Fo_init_37 : decode b_Fo_init 37 = .ok (.sipush 192, 3) := by decide +kernel
theorem d_Fo_init_40 : decode b_Fo_init 40 = .ok (.newarray .int, 2) := by decide +kernel
theorem d_Fo_init_42 : decode b_Fo_init 42 = .ok (.putfield 24, 3) := by decide +kernel
theorem d_Fo_init_45 : decode b_Fo_init 45 = .ok (.return_, 1) := by decide +kernel
theorem d_Pk_init_0 : decode b_Pk_init 0 = .ok (.aload_n 0, 1) := by decide +kernel
theorem d_Pk_init_1 : decode b_Pk_init 1 = .ok (.invokespecial 3, 3) := by decide +kernel
theorem d_Pk_init_4 : decode b_Pk_init 4 = .ok (.aload_n 0, 1) := by decide +kernel
theorem d_Pk_init_5 : decode b_Pk_init 5 = .ok (.iconst 3, 1) := by decide +kernel
theorem d_Pk_init_6 : decode b_Pk_init 6 = .ok (.newarray .int, 2) := by decide +kernel
theorem d_Pk_init_8 : decode b_Pk_init 8 = .ok (.putfield 9, 3) := by decide +kernel
theorem d_Pk_init_11 : decode b_Pk_init 11 = .ok (.aload_n 0, 1) := by decide +kernel
theorem d_Pk_init_12 : decode b_Pk_init 12 = .ok (.bipush 6, 2) := by decide +kernel
theorem d_Pk_init_14 : decode b_Pk_init 14 = .ok (.newarray .int, 2) := by decide +kernel
theorem d_Pk_init_16 : decode b_Pk_init 16 = .ok (.putfield 15, 3) := by decide +kernel
theorem d_Pk_init_19 : decode b_Pk_init 19 = .ok (.aload_n 0, 1) := by decide +kernel
theorem d_Pk_init_20 : decode b_Pk_init 20 = .ok (.bipush 6, 2) := by decide +kernel
theorem d_Pk_init_22 : decode b_Pk_init 22 = .ok (.newarray .int, 2) := by decide +kernel
theorem d_Pk_init_24 : decode b_Pk_init 24 = .ok (.putfield 18, 3) := by decide +kernel
theorem d_Pk_init_27 : decode b_Pk_init 27 = .ok (.aload_n 0, 1) := by decide +kernel
theorem d_Pk_init_28 : decode b_Pk_init 28 = .ok (.bipush 6, 2) := by decide +kernel
theorem d_Pk_init_30 : decode b_Pk_init 30 = .ok (.newarray .int, 2) := by decide +kernel
theorem d_Pk_init_32 : decode b_Pk_init 32 = .ok (.putfield 21, 3) := by decide +kernel
theorem d_Pk_init_35 : decode b_Pk_init 35 = .ok (.aload_n 0, 1) := by decide +kernel
theorem d_Pk_init_36 : decode b_Pk_init 36 = .ok (.iconst 0, 1) := by decide +kernel
theorem d_Pk_init_37 : decode b_Pk_init 37 = .ok (.putfield 24, 3) := by decide +kernel
theorem d_Pk_init_40 : decode b_Pk_init 40 = .ok (.return_, 1) := by decide +kernel
theorem d_Sk_init_0 : decode b_Sk_init 0 = .ok (.aload_n 0, 1) := by decide +kernel
theorem d_Sk_init_1 : decode b_Sk_init 1 = .ok (.invokespecial 3, 3) := by decide +kernel
theorem d_Sk_init_4 : decode b_Sk_init 4 = .ok (.aload_n 0, 1) := by decide +kernel
theorem d_Sk_init_5 : decode b_Sk_init 5 = .ok (.bipush 10, 2) := by decide +kernel
theorem d_Sk_init_7 : decode b_Sk_init 7 = .ok (.newarray .int, 2) := by decide +kernel
theorem d_Sk_init_9 : decode b_Sk_init 9 = .ok (.putfield 9, 3) := by decide +kernel
theorem d_Sk_init_12 : decode b_Sk_init 12 = .ok (.aload_n 0, 1) := by decide +kernel
theorem d_Sk_init_13 : decode b_Sk_init 13 = .ok (.bipush 10, 2) := by decide +kernel
theorem d_Sk_init_15 : decode b_Sk_init 15 = .ok (.newarray .int, 2) := by decide +kernel
theorem d_Sk_init_17 : decode b_Sk_init 17 = .ok (.putfield 15, 3) := by decide +kernel
theorem d_Sk_init_20 : decode b_Sk_init 20 = .ok (.aload_n 0, 1) := by decide +kernel
theorem d_Sk_init_21 : decode b_Sk_init 21 = .ok (.bipush 10, 2) := by decide +kernel
theorem d_Sk_init_23 : decode b_Sk_init 23 = .ok (.newarray .int, 2) := by decide +kernel
theorem d_Sk_init_25 : decode b_Sk_init 25 = .ok (.putfield 18, 3) := by decide +kernel
theorem d_Sk_init_28 : decode b_Sk_init 28 = .ok (.aload_n 0, 1) := by decide +kernel
theorem d_Sk_init_29 : decode b_Sk_init 29 = .ok (.bipush 10, 2) := by decide +kernel
theorem d_Sk_init_31 : decode b_Sk_init 31 = .ok (.newarray .boolean, 2) := by decide +kernel
theorem d_Sk_init_33 : decode b_Sk_init 33 = .ok (.putfield 21, 3) := by decide +kernel
theorem d_Sk_init_36 : decode b_Sk_init 36 = .ok (.aload_n 0, 1) := by decide +kernel
theorem d_Sk_init_37 : decode b_Sk_init 37 = .ok (.iconst 0, 1) := by decide +kernel
theorem d_Sk_init_38 : decode b_Sk_init 38 = .ok (.putfield 25, 3) := by decide +kernel
theorem d_Sk_init_41 : decode b_Sk_init 41 = .ok (.return_, 1) := by decide +kernel
theorem d_Ai_init_0 : decode b_Ai_init 0 = .ok (.aload_n 0, 1) := by decide +kernel
theorem d_Ai_init_1 : decode b_Ai_init 1 = .ok (.invokespecial 3, 3) := by decide +kernel
theorem d_Ai_init_4 : decode b_Ai_init 4 = .ok (.aload_n 0, 1) := by decide +kernel
theorem d_Ai_init_5 : decode b_Ai_init 5 = .ok (.sipush 200, 3) := by decide +kernel
theorem d_Ai_init_8 : decode b_Ai_init 8 = .ok (.newarray .int, 2) := by decide +kernel
theorem d_Ai_init_10 : decode b_Ai_init 10 = .ok (.putfield 9, 3) := by decide +kernel
theorem d_Ai_init_13 : decode b_Ai_init 13 = .ok (.aload_n 0, 1) := by decide +kernel
theorem d_Ai_init_14 : decode b_Ai_init 14 = .ok (.iconst 0, 1) := by decide +kernel
theorem d_Ai_init_15 : decode b_Ai_init 15 = .ok (.putfield 15, 3) := by decide +kernel
theorem d_Ai_init_18 : decode b_Ai_init 18 = .ok (.aload_n 0, 1) := by decide +kernel
theorem d_Ai_init_19 : decode b_Ai_init 19 = .ok (.iconst 4, 1) := by decide +kernel
theorem d_Ai_init_20 : decode b_Ai_init 20 = .ok (.putfield 19, 3) := by decide +kernel
theorem d_Ai_init_23 : decode b_Ai_init 23 = .ok (.return_, 1) := by decide +kernel
theorem d_Sh_init_0 : decode b_Sh_init 0 = .ok (.aload_n 0, 1) := by decide +kernel
theorem d_Sh_init_1 : decode b_Sh_init 1 = .ok (.invokespecial 3, 3) := by decide +kernel
theorem d_Sh_init_4 : decode b_Sh_init 4 = .ok (.aload_n 0, 1) := by decide +kernel
theorem d_Sh_init_5 : decode b_Sh_init 5 = .ok (.sipush 10000, 3) := by decide +kernel
theorem d_Sh_init_8 : decode b_Sh_init 8 = .ok (.putfield 9, 3) := by decide +kernel
theorem d_Sh_init_11 : decode b_Sh_init 11 = .ok (.aload_n 0, 1) := by decide +kernel
theorem d_Sh_init_12 : decode b_Sh_init 12 = .ok (.sipush 10000, 3) := by decide +kernel
theorem d_Sh_init_15 : decode b_Sh_init 15 = .ok (.putfield 15, 3) := by decide +kernel
theorem d_Sh_init_18 : decode b_Sh_init 18 = .ok (.aload_n 0, 1) := by decide +kernel
theorem d_Sh_init_19 : decode b_Sh_init 19 = .ok (.iconst 0, 1) := by decide +kernel
theorem d_Sh_init_20 : decode b_Sh_init 20 = .ok (.putfield 18, 3) := by decide +kernel
theorem d_Sh_init_23 : decode b_Sh_init 23 = .ok (.aload_n 0, 1) := by decide +kernel
theorem d_Sh_init_24 : decode b_Sh_init 24 = .ok (.iconst 0, 1) := by decide +kernel
theorem d_Sh_init_25 : decode b_Sh_init 25 = .ok (.putfield 21, 3) := by decide +kernel
theorem d_Sh_init_28 : decode b_Sh_init 28 = .ok (.return_, 1) := by decide +kernel
theorem d_Jo_init_0 : decode b_Jo_init 0 = .ok (.aload_n 0, 1) := by decide +kernel
theorem d_Jo_init_1 : decode b_Jo_init 1 = .ok (.invokespecial 3, 3) := by decide +kernel
theorem d_Jo_init_4 : decode b_Jo_init 4 = .ok (.aload_n 0, 1) := by decide +kernel
theorem d_Jo_init_5 : decode b_Jo_init 5 = .ok (.bipush 50, 2) := by decide +kernel
theorem d_Jo_init_7 : decode b_Jo_init 7 = .ok (.newarray .int, 2) := by decide +kernel
theorem d_Jo_init_9 : decode b_Jo_init 9 = .ok (.putfield 9, 3) := by decide +kernel
theorem d_Jo_init_12 : decode b_Jo_init 12 = .ok (.aload_n 0, 1) := by decide +kernel
theorem d_Jo_init_13 : decode b_Jo_init 13 = .ok (.iconst 0, 1) := by decide +kernel
theorem d_Jo_init_14 : decode b_Jo_init 14 = .ok (.putfield 15, 3) := by decide +kernel
theorem d_Jo_init_17 : decode b_Jo_init 17 = .ok (.return_, 1) := by decide +kernel
theorem d_La_object_0 : decode b_La_object 0 = .ok (.aload 5, 2) := by decide +kernel
theorem d_La_object_2 : decode b_La_object 2 = .ok (.iconst 0, 1) := by decide +kernel
theorem d_La_object_3 : decode b_La_object 3 = .ok (.aload_n 0, 1) := by decide +kernel
theorem d_La_object_4 : decode b_La_object 4 = .ok (.iload_n 1, 1) := by decide +kernel
theorem d_La_object_5 : decode b_La_object 5 = .ok (.iload_n 2, 1) := by decide +kernel
theorem d_La_object_6 : decode b_La_object 6 = .ok (.iload_n 3, 1) := by decide +kernel
theorem d_La_object_7 : decode b_La_object 7 = .ok (.iload 4, 2) := by decide +kernel
theorem d_La_object_9 : decode b_La_object 9 = .ok (.invokevirtual 7, 3) := by decide +kernel
theorem d_La_object_12 : decode b_La_object 12 = .ok (.i2l, 1) := by decide +kernel
theorem d_La_object_13 : decode b_La_object 13 = .ok (.lastore, 1) := by decide +kernel
theorem d_La_object_14 : decode b_La_object 14 = .ok (.goto 11, 3) := by decide +kernel
theorem d_La_object_17 : decode b_La_object 17 = .ok (.astore 6, 2) := by decide +kernel
theorem d_La_object_19 : decode b_La_object 19 = .ok (.iconst 1, 1) := by decide +kernel
theorem d_La_object_20 : decode b_La_object 20 = .ok (.ireturn, 1) := by decide +kernel
theorem d_La_object_21 : decode b_La_object 21 = .ok (.astore 6, 2) := by decide +kernel
theorem d_La_object_23 : decode b_La_object 23 = .ok (.iconst 2, 1) := by decide +kernel
theorem d_La_object_24 : decode b_La_object 24 = .ok (.ireturn, 1) := by decide +kernel
theorem d_La_object_25 : decode b_La_object 25 = .ok (.iconst 0, 1) := by decide +kernel
theorem d_La_object_26 : decode b_La_object 26 = .ok (.ireturn, 1) := by decide +kernel
theorem d_Cc_object_0 : decode b_Cc_object 0 = .ok (.aload_n 0, 1) := by decide +kernel
theorem d_Cc_object_1 : decode b_Cc_object 1 = .ok (.getfield 10, 3) := by decide +kernel
theorem d_Cc_object_4 : decode b_Cc_object 4 = .ok (.iload_n 1, 1) := by decide +kernel
theorem d_Cc_object_5 : decode b_Cc_object 5 = .ok (.iload_n 2, 1) := by decide +kernel
theorem d_Cc_object_6 : decode b_Cc_object 6 = .ok (.iload_n 3, 1) := by decide +kernel
theorem d_Cc_object_7 : decode b_Cc_object 7 = .ok (.iload 4, 2) := by decide +kernel
theorem d_Cc_object_9 : decode b_Cc_object 9 = .ok (.invokevirtual 58, 3) := by decide +kernel
theorem d_Cc_object_12 : decode b_Cc_object 12 = .ok (.ireturn, 1) := by decide +kernel
theorem d_Go_add_0 : decode b_Go_add 0 = .ok (.aload_n 0, 1) := by decide +kernel
theorem d_Go_add_1 : decode b_Go_add 1 = .ok (.getfield 27, 3) := by decide +kernel
theorem d_Go_add_4 : decode b_Go_add 4 = .ok (.bipush 6, 2) := by decide +kernel
theorem d_Go_add_6 : decode b_Go_add 6 = .ok (.invokestatic 31, 3) := by decide +kernel
theorem d_Go_add_9 : decode b_Go_add 9 = .ok (.iload_n 1, 1) := by decide +kernel
theorem d_Go_add_10 : decode b_Go_add 10 = .ok (.iconst 1, 1) := by decide +kernel
theorem d_Go_add_11 : decode b_Go_add 11 = .ok (.sipush 200, 3) := by decide +kernel
theorem d_Go_add_14 : decode b_Go_add 14 = .ok (.invokestatic 35, 3) := by decide +kernel
theorem d_Go_add_17 : decode b_Go_add 17 = .ok (.iload_n 2, 1) := by decide +kernel
theorem d_Go_add_18 : decode b_Go_add 18 = .ok (.iconst 1, 1) := by decide +kernel
theorem d_Go_add_19 : decode b_Go_add 19 = .ok (.sipush 200, 3) := by decide +kernel
theorem d_Go_add_22 : decode b_Go_add 22 = .ok (.invokestatic 35, 3) := by decide +kernel
theorem d_Go_add_25 : decode b_Go_add 25 = .ok (.iload_n 3, 1) := by decide +kernel
theorem d_Go_add_26 : decode b_Go_add 26 = .ok (.iconst 1, 1) := by decide +kernel
theorem d_Go_add_27 : decode b_Go_add 27 = .ok (.sipush 200, 3) := by decide +kernel
theorem d_Go_add_30 : decode b_Go_add 30 = .ok (.invokestatic 35, 3) := by decide +kernel
theorem d_Go_add_33 : decode b_Go_add 33 = .ok (.iload 4, 2) := by decide +kernel
theorem d_Go_add_35 : decode b_Go_add 35 = .ok (.iconst 1, 1) := by decide +kernel
theorem d_Go_add_36 : decode b_Go_add 36 = .ok (.ldc 39, 2) := by decide +kernel
theorem d_Go_add_38 : decode b_Go_add 38 = .ok (.invokestatic 35, 3) := by decide +kernel
theorem d_Go_add_41 : decode b_Go_add 41 = .ok (.aload_n 0, 1) := by decide +kernel
theorem d_Go_add_42 : decode b_Go_add 42 = .ok (.getfield 27, 3) := by decide +kernel
theorem d_Go_add_45 : decode b_Go_add 45 = .ok (.iconst 3, 1) := by decide +kernel
theorem d_Go_add_46 : decode b_Go_add 46 = .ok (.imul, 1) := by decide +kernel
theorem d_Go_add_47 : decode b_Go_add 47 = .ok (.istore 5, 2) := by decide +kernel
theorem d_Go_add_49 : decode b_Go_add 49 = .ok (.aload_n 0, 1) := by decide +kernel
theorem d_Go_add_50 : decode b_Go_add 50 = .ok (.getfield 9, 3) := by decide +kernel
theorem d_Go_add_53 : decode b_Go_add 53 = .ok (.iload 5, 2) := by decide +kernel
theorem d_Go_add_55 : decode b_Go_add 55 = .ok (.iload_n 1, 1) := by decide +kernel
theorem d_Go_add_56 : decode b_Go_add 56 = .ok (.iastore, 1) := by decide +kernel
theorem d_Go_add_57 : decode b_Go_add 57 = .ok (.aload_n 0, 1) := by decide +kernel
theorem d_Go_add_58 : decode b_Go_add 58 = .ok (.getfield 9, 3) := by decide +kernel
theorem d_Go_add_61 : decode b_Go_add 61 = .ok (.iload 5, 2) := by decide +kernel
theorem d_Go_add_63 : decode b_Go_add 63 = .ok (.iconst 1, 1) := by decide +kernel
theorem d_Go_add_64 : decode b_Go_add 64 = .ok (.iadd, 1) := by decide +kernel
theorem d_Go_add_65 : decode b_Go_add 65 = .ok (.iload_n 2, 1) := by decide +kernel
theorem d_Go_add_66 : decode b_Go_add 66 = .ok (.iastore, 1) := by decide +kernel
theorem d_Go_add_67 : decode b_Go_add 67 = .ok (.aload_n 0, 1) := by decide +kernel
theorem d_Go_add_68 : decode b_Go_add 68 = .ok (.getfield 9, 3) := by decide +kernel
theorem d_Go_add_71 : decode b_Go_add 71 = .ok (.iload 5, 2) := by decide +kernel
theorem d_Go_add_73 : decode b_Go_add 73 = .ok (.iconst 2, 1) := by decide +kernel
theorem d_Go_add_74 : decode b_Go_add 74 = .ok (.iadd, 1) := by decide +kernel
theorem d_Go_add_75 : decode b_Go_add 75 = .ok (.iload_n 3, 1) := by decide +kernel
theorem d_Go_add_76 : decode b_Go_add 76 = .ok (.iastore, 1) := by decide +kernel
theorem d_Go_add_77 : decode b_Go_add 77 = .ok (.aload_n 0, 1) := by decide +kernel
theorem d_Go_add_78 : decode b_Go_add 78 = .ok (.getfield 15, 3) := by decide +kernel
theorem d_Go_add_81 : decode b_Go_add 81 = .ok (.aload_n 0, 1) := by decide +kernel
theorem d_Go_add_82 : decode b_Go_add 82 = .ok (.getfield 27, 3) := by decide +kernel
theorem d_Go_add_85 : decode b_Go_add 85 = .ok (.iload 4, 2) := by decide +kernel
theorem d_Go_add_87 : decode b_Go_add 87 = .ok (.iastore, 1) := by decide +kernel
theorem d_Go_add_88 : decode b_Go_add 88 = .ok (.aload_n 0, 1) := by decide +kernel
theorem d_Go_add_89 : decode b_Go_add 89 = .ok (.dup, 1) := by decide +kernel
theorem d_Go_add_90 : decode b_Go_add 90 = .ok (.getfield 27, 3) := by decide +kernel
theorem d_Go_add_93 : decode b_Go_add 93 = .ok (.iconst 1, 1) := by decide +kernel
theorem d_Go_add_94 : decode b_Go_add 94 = .ok (.iadd, 1) := by decide +kernel
theorem d_Go_add_95 : decode b_Go_add 95 = .ok (.putfield 27, 3) := by decide +kernel
theorem d_Go_add_98 : decode b_Go_add 98 = .ok (.aload_n 0, 1) := by decide +kernel
theorem d_Go_add_99 : decode b_Go_add 99 = .ok (.getfield 27, 3) := by decide +kernel
theorem d_Go_add_102 : decode b_Go_add 102 = .ok (.iconst 1, 1) := by decide +kernel
theorem d_Go_add_103 : decode b_Go_add 103 = .ok (.isub, 1) := by decide +kernel
theorem d_Go_add_104 : decode b_Go_add 104 = .ok (.ireturn, 1) := by decide +kernel
theorem d_Cc_requireRoom_0 : decode b_Cc_requireRoom 0 = .ok (.iload_n 0, 1) := by decide +kernel
theorem d_Cc_requireRoom_1 : decode b_Cc_requireRoom 1 = .ok (.iload_n 1, 1) := by decide +kernel
theorem d_Cc_requireRoom_2 : decode b_Cc_requireRoom 2 = .ok (.if_icmp .lt 13, 3) := by decide +kernel
theorem d_Cc_requireRoom_5 : decode b_Cc_requireRoom 5 = .ok (.new 161, 3) := by decide +kernel
theorem d_Cc_requireRoom_8 : decode b_Cc_requireRoom 8 = .ok (.dup, 1) := by decide +kernel
theorem d_Cc_requireRoom_9 : decode b_Cc_requireRoom 9 = .ok (.ldc 163, 2) := by decide +kernel
theorem d_Cc_requireRoom_11 : decode b_Cc_requireRoom 11 = .ok (.invokespecial 165, 3) := by decide +kernel
theorem d_Cc_requireRoom_14 : decode b_Cc_requireRoom 14 = .ok (.athrow, 1) := by decide +kernel
theorem d_Cc_requireRoom_15 : decode b_Cc_requireRoom 15 = .ok (.return_, 1) := by decide +kernel
theorem d_Cc_requireRange_0 : decode b_Cc_requireRange 0 = .ok (.iload_n 0, 1) := by decide +kernel
theorem d_Cc_requireRange_1 : decode b_Cc_requireRange 1 = .ok (.iload_n 1, 1) := by decide +kernel
theorem d_Cc_requireRange_2 : decode b_Cc_requireRange 2 = .ok (.if_icmp .lt 8, 3) := by decide +kernel
theorem d_Cc_requireRange_5 : decode b_Cc_requireRange 5 = .ok (.iload_n 0, 1) := by decide +kernel
theorem d_Cc_requireRange_6 : decode b_Cc_requireRange 6 = .ok (.iload_n 2, 1) := by decide +kernel
theorem d_Cc_requireRange_7 : decode b_Cc_requireRange 7 = .ok (.if_icmp .le 13, 3) := by decide +kernel
theorem d_Cc_requireRange_10 : decode b_Cc_requireRange 10 = .ok (.new 156, 3) := by decide +kernel
theorem d_Cc_requireRange_13 : decode b_Cc_requireRange 13 = .ok (.dup, 1) := by decide +kernel
theorem d_Cc_requireRange_14 : decode b_Cc_requireRange 14 = .ok (.ldc 158, 2) := by decide +kernel
theorem d_Cc_requireRange_16 : decode b_Cc_requireRange 16 = .ok (.invokespecial 160, 3) := by decide +kernel
theorem d_Cc_requireRange_19 : decode b_Cc_requireRange 19 = .ok (.athrow, 1) := by decide +kernel
theorem d_Cc_requireRange_20 : decode b_Cc_requireRange 20 = .ok (.return_, 1) := by decide +kernel
theorem d_La_weak_0 : decode b_La_weak 0 = .ok (.aload 4, 2) := by decide +kernel
theorem d_La_weak_2 : decode b_La_weak 2 = .ok (.iconst 0, 1) := by decide +kernel
theorem d_La_weak_3 : decode b_La_weak 3 = .ok (.aload_n 0, 1) := by decide +kernel
theorem d_La_weak_4 : decode b_La_weak 4 = .ok (.iload_n 1, 1) := by decide +kernel
theorem d_La_weak_5 : decode b_La_weak 5 = .ok (.iload_n 2, 1) := by decide +kernel
theorem d_La_weak_6 : decode b_La_weak 6 = .ok (.iload_n 3, 1) := by decide +kernel
theorem d_La_weak_7 : decode b_La_weak 7 = .ok (.invokevirtual 17, 3) := by decide +kernel
theorem d_La_weak_10 : decode b_La_weak 10 = .ok (.ifCond .eq 7, 3) := by decide +kernel
theorem d_La_weak_13 : decode b_La_weak 13 = .ok (.lconst 1, 1) := by decide +kernel
theorem d_La_weak_14 : decode b_La_weak 14 = .ok (.goto 4, 3) := by decide +kernel
theorem d_La_weak_17 : decode b_La_weak 17 = .ok (.lconst 0, 1) := by decide +kernel
theorem d_La_weak_18 : decode b_La_weak 18 = .ok (.lastore, 1) := by decide +kernel
theorem d_La_weak_19 : decode b_La_weak 19 = .ok (.goto 7, 3) := by decide +kernel
theorem d_La_weak_22 : decode b_La_weak 22 = .ok (.astore 5, 2) := by decide +kernel
theorem d_La_weak_24 : decode b_La_weak 24 = .ok (.iconst 1, 1) := by decide +kernel
theorem d_La_weak_25 : decode b_La_weak 25 = .ok (.ireturn, 1) := by decide +kernel
theorem d_La_weak_26 : decode b_La_weak 26 = .ok (.iconst 0, 1) := by decide +kernel
theorem d_La_weak_27 : decode b_La_weak 27 = .ok (.ireturn, 1) := by decide +kernel
theorem d_Cc_weak_0 : decode b_Cc_weak 0 = .ok (.aload_n 0, 1) := by decide +kernel
theorem d_Cc_weak_1 : decode b_Cc_weak 1 = .ok (.getfield 10, 3) := by decide +kernel
theorem d_Cc_weak_4 : decode b_Cc_weak 4 = .ok (.iload_n 1, 1) := by decide +kernel
theorem d_Cc_weak_5 : decode b_Cc_weak 5 = .ok (.iload_n 2, 1) := by decide +kernel
theorem d_Cc_weak_6 : decode b_Cc_weak 6 = .ok (.iload_n 3, 1) := by decide +kernel
theorem d_Cc_weak_7 : decode b_Cc_weak 7 = .ok (.invokevirtual 62, 3) := by decide +kernel
theorem d_Cc_weak_10 : decode b_Cc_weak 10 = .ok (.ireturn, 1) := by decide +kernel
theorem d_Go_setWeak_0 : decode b_Go_setWeak 0 = .ok (.iload_n 1, 1) := by decide +kernel
theorem d_Go_setWeak_1 : decode b_Go_setWeak 1 = .ok (.aload_n 0, 1) := by decide +kernel
theorem d_Go_setWeak_2 : decode b_Go_setWeak 2 = .ok (.getfield 27, 3) := by decide +kernel
theorem d_Go_setWeak_5 : decode b_Go_setWeak 5 = .ok (.invokestatic 40, 3) := by decide +kernel
theorem d_Go_setWeak_8 : decode b_Go_setWeak 8 = .ok (.iload_n 2, 1) := by decide +kernel
theorem d_Go_setWeak_9 : decode b_Go_setWeak 9 = .ok (.bipush 6, 2) := by decide +kernel
theorem d_Go_setWeak_11 : decode b_Go_setWeak 11 = .ok (.invokestatic 40, 3) := by decide +kernel
theorem d_Go_setWeak_14 : decode b_Go_setWeak 14 = .ok (.iconst 1, 1) := by decide +kernel
theorem d_Go_setWeak_15 : decode b_Go_setWeak 15 = .ok (.iload_n 2, 1) := by decide +kernel
theorem d_Go_setWeak_16 : decode b_Go_setWeak 16 = .ok (.ishl, 1) := by decide +kernel
theorem d_Go_setWeak_17 : decode b_Go_setWeak 17 = .ok (.istore 4, 2) := by decide +kernel
theorem d_Go_setWeak_19 : decode b_Go_setWeak 19 = .ok (.aload_n 0, 1) := by decide +kernel
theorem d_Go_setWeak_20 : decode b_Go_setWeak 20 = .ok (.getfield 18, 3) := by decide +kernel
theorem d_Go_setWeak_23 : decode b_Go_setWeak 23 = .ok (.iload_n 1, 1) := by decide +kernel
theorem d_Go_setWeak_24 : decode b_Go_setWeak 24 = .ok (.iaload, 1) := by decide +kernel
theorem d_Go_setWeak_25 : decode b_Go_setWeak 25 = .ok (.iload 4, 2) := by decide +kernel
theorem d_Go_setWeak_27 : decode b_Go_setWeak 27 = .ok (.iand, 1) := by decide +kernel
theorem d_Go_setWeak_28 : decode b_Go_setWeak 28 = .ok (.ifCond .eq 7, 3) := by decide +kernel
theorem d_Go_setWeak_31 : decode b_Go_setWeak 31 = .ok (.iconst 1, 1) := by decide +kernel
theorem d_Go_setWeak_32 : decode b_Go_setWeak 32 = .ok (.goto 4, 3) := by decide +kernel
theorem d_Go_setWeak_35 : decode b_Go_setWeak 35 = .ok (.iconst 0, 1) := by decide +kernel
theorem d_Go_setWeak_36 : decode b_Go_setWeak 36 = .ok (.istore 5, 2) := by decide +kernel
theorem d_Go_setWeak_38 : decode b_Go_setWeak 38 = .ok (.aload_n 0, 1) := by decide +kernel
theorem d_Go_setWeak_39 : decode b_Go_setWeak 39 = .ok (.getfield 18, 3) := by decide +kernel
theorem d_Go_setWeak_42 : decode b_Go_setWeak 42 = .ok (.iload_n 1, 1) := by decide +kernel
theorem d_Go_setWeak_43 : decode b_Go_setWeak 43 = .ok (.iload_n 3, 1) := by decide +kernel
theorem d_Go_setWeak_44 : decode b_Go_setWeak 44 = .ok (.ifCond .eq 15, 3) := by decide +kernel
theorem d_Go_setWeak_47 : decode b_Go_setWeak 47 = .ok (.aload_n 0, 1) := by decide +kernel
theorem d_Go_setWeak_48 : decode b_Go_setWeak 48 = .ok (.getfield 18, 3) := by decide +kernel
theorem d_Go_setWeak_51 : decode b_Go_setWeak 51 = .ok (.iload_n 1, 1) := by decide +kernel
theorem d_Go_setWeak_52 : decode b_Go_setWeak 52 = .ok (.iaload, 1) := by decide +kernel
theorem d_Go_setWeak_53 : decode b_Go_setWeak 53 = .ok (.iload 4, 2) := by decide +kernel
theorem d_Go_setWeak_55 : decode b_Go_setWeak 55 = .ok (.ior, 1) := by decide +kernel
theorem d_Go_setWeak_56 : decode b_Go_setWeak 56 = .ok (.goto 14, 3) := by decide +kernel
theorem d_Go_setWeak_59 : decode b_Go_setWeak 59 = .ok (.aload_n 0, 1) := by decide +kernel
theorem d_Go_setWeak_60 : decode b_Go_setWeak 60 = .ok (.getfield 18, 3) := by decide +kernel
theorem d_Go_setWeak_63 : decode b_Go_setWeak 63 = .ok (.iload_n 1, 1) := by decide +kernel
theorem d_Go_setWeak_64 : decode b_Go_setWeak 64 = .ok (.iaload, 1) := by decide +kernel
theorem d_Go_setWeak_65 : decode b_Go_setWeak 65 = .ok (.iload 4, 2) := by decide +kernel
theorem d_Go_setWeak_67 : decode b_Go_setWeak 67 = .ok (.iconst (-1), 1) := by decide +kernel
theorem d_Go_setWeak_68 : decode b_Go_setWeak 68 = .ok (.ixor, 1) := by decide +kernel
theorem d_Go_setWeak_69 : decode b_Go_setWeak 69 = .ok (.iand, 1) := by decide +kernel
theorem d_Go_setWeak_70 : decode b_Go_setWeak 70 = .ok (.iastore, 1) := by decide +kernel
theorem d_Go_setWeak_71 : decode b_Go_setWeak 71 = .ok (.iload 5, 2) := by decide +kernel
theorem d_Go_setWeak_73 : decode b_Go_setWeak 73 = .ok (.iload_n 3, 1) := by decide +kernel
theorem d_Go_setWeak_74 : decode b_Go_setWeak 74 = .ok (.if_icmp .eq 7, 3) := by decide +kernel
theorem d_Go_setWeak_77 : decode b_Go_setWeak 77 = .ok (.iconst 1, 1) := by decide +kernel
theorem d_Go_setWeak_78 : decode b_Go_setWeak 78 = .ok (.goto 4, 3) := by decide +kernel
theorem d_Go_setWeak_81 : decode b_Go_setWeak 81 = .ok (.iconst 0, 1) := by decide +kernel
theorem d_Go_setWeak_82 : decode b_Go_setWeak 82 = .ok (.ireturn, 1) := by decide +kernel
theorem d_Cc_requireIndex_0 : decode b_Cc_requireIndex 0 = .ok (.iload_n 0, 1) := by decide +kernel
theorem d_Cc_requireIndex_1 : decode b_Cc_requireIndex 1 = .ok (.ifCond .lt 8, 3) := by decide +kernel
theorem d_Cc_requireIndex_4 : decode b_Cc_requireIndex 4 = .ok (.iload_n 0, 1) := by decide +kernel
theorem d_Cc_requireIndex_5 : decode b_Cc_requireIndex 5 = .ok (.iload_n 1, 1) := by decide +kernel
theorem d_Cc_requireIndex_6 : decode b_Cc_requireIndex 6 = .ok (.if_icmp .lt 13, 3) := by decide +kernel
theorem d_Cc_requireIndex_9 : decode b_Cc_requireIndex 9 = .ok (.new 147, 3) := by decide +kernel
theorem d_Cc_requireIndex_12 : decode b_Cc_requireIndex 12 = .ok (.dup, 1) := by decide +kernel
theorem d_Cc_requireIndex_13 : decode b_Cc_requireIndex 13 = .ok (.ldc 154, 2) := by decide +kernel
theorem d_Cc_requireIndex_15 : decode b_Cc_requireIndex 15 = .ok (.invokespecial 151, 3) := by decide +kernel
theorem d_Cc_requireIndex_18 : decode b_Cc_requireIndex 18 = .ok (.athrow, 1) := by decide +kernel
theorem d_Cc_requireIndex_19 : decode b_Cc_requireIndex 19 = .ok (.return_, 1) := by decide +kernel
theorem d_La_foam_0 : decode b_La_foam 0 = .ok (.aload_n 3, 1) := by decide +kernel
theorem d_La_foam_1 : decode b_La_foam 1 = .ok (.iconst 0, 1) := by decide +kernel
theorem d_La_foam_2 : decode b_La_foam 2 = .ok (.aload_n 0, 1) := by decide +kernel
theorem d_La_foam_3 : decode b_La_foam 3 = .ok (.iload_n 1, 1) := by decide +kernel
theorem d_La_foam_4 : decode b_La_foam 4 = .ok (.iload_n 2, 1) := by decide +kernel
theorem d_La_foam_5 : decode b_La_foam 5 = .ok (.invokevirtual 23, 3) := by decide +kernel
theorem d_La_foam_8 : decode b_La_foam 8 = .ok (.i2l, 1) := by decide +kernel
theorem d_La_foam_9 : decode b_La_foam 9 = .ok (.lastore, 1) := by decide +kernel
theorem d_La_foam_10 : decode b_La_foam 10 = .ok (.goto 15, 3) := by decide +kernel
theorem d_La_foam_13 : decode b_La_foam 13 = .ok (.astore 4, 2) := by decide +kernel
theorem d_La_foam_15 : decode b_La_foam 15 = .ok (.iconst 1, 1) := by decide +kernel
theorem d_La_foam_16 : decode b_La_foam 16 = .ok (.ireturn, 1) := by decide +kernel
theorem d_La_foam_17 : decode b_La_foam 17 = .ok (.astore 4, 2) := by decide +kernel
theorem d_La_foam_19 : decode b_La_foam 19 = .ok (.iconst 2, 1) := by decide +kernel
theorem d_La_foam_20 : decode b_La_foam 20 = .ok (.ireturn, 1) := by decide +kernel
theorem d_La_foam_21 : decode b_La_foam 21 = .ok (.astore 4, 2) := by decide +kernel
theorem d_La_foam_23 : decode b_La_foam 23 = .ok (.iconst 3, 1) := by decide +kernel
theorem d_La_foam_24 : decode b_La_foam 24 = .ok (.ireturn, 1) := by decide +kernel
theorem d_La_foam_25 : decode b_La_foam 25 = .ok (.iconst 0, 1) := by decide +kernel
theorem d_La_foam_26 : decode b_La_foam 26 = .ok (.ireturn, 1) := by decide +kernel
theorem d_Cc_foam_0 : decode b_Cc_foam 0 = .ok (.aload_n 0, 1) := by decide +kernel
theorem d_Cc_foam_1 : decode b_Cc_foam 1 = .ok (.getfield 19, 3) := by decide +kernel
theorem d_Cc_foam_4 : decode b_Cc_foam 4 = .ok (.iload_n 1, 1) := by decide +kernel
theorem d_Cc_foam_5 : decode b_Cc_foam 5 = .ok (.iload_n 2, 1) := by decide +kernel
theorem d_Cc_foam_6 : decode b_Cc_foam 6 = .ok (.invokevirtual 66, 3) := by decide +kernel
theorem d_Cc_foam_9 : decode b_Cc_foam 9 = .ok (.ireturn, 1) := by decide +kernel
theorem d_Fo_addRow_0 : decode b_Fo_addRow 0 = .ok (.iload_n 1, 1) := by decide +kernel
theorem d_Fo_addRow_1 : decode b_Fo_addRow 1 = .ok (.iconst 4, 1) := by decide +kernel
theorem d_Fo_addRow_2 : decode b_Fo_addRow 2 = .ok (.invokestatic 27, 3) := by decide +kernel
theorem d_Fo_addRow_5 : decode b_Fo_addRow 5 = .ok (.aload_n 0, 1) := by decide +kernel
theorem d_Fo_addRow_6 : decode b_Fo_addRow 6 = .ok (.getfield 9, 3) := by decide +kernel
theorem d_Fo_addRow_9 : decode b_Fo_addRow 9 = .ok (.iload_n 1, 1) := by decide +kernel
theorem d_Fo_addRow_10 : decode b_Fo_addRow 10 = .ok (.iaload, 1) := by decide +kernel
theorem d_Fo_addRow_11 : decode b_Fo_addRow 11 = .ok (.istore_n 3, 1) := by decide +kernel
theorem d_Fo_addRow_12 : decode b_Fo_addRow 12 = .ok (.iload_n 3, 1) := by decide +kernel
theorem d_Fo_addRow_13 : decode b_Fo_addRow 13 = .ok (.bipush 8, 2) := by decide +kernel
theorem d_Fo_addRow_15 : decode b_Fo_addRow 15 = .ok (.invokestatic 31, 3) := by decide +kernel
theorem d_Fo_addRow_18 : decode b_Fo_addRow 18 = .ok (.iload_n 1, 1) := by decide +kernel
theorem d_Fo_addRow_19 : decode b_Fo_addRow 19 = .ok (.bipush 8, 2) := by decide +kernel
theorem d_Fo_addRow_21 : decode b_Fo_addRow 21 = .ok (.imul, 1) := by decide +kernel
theorem d_Fo_addRow_22 : decode b_Fo_addRow 22 = .ok (.iload_n 3, 1) := by decide +kernel
theorem d_Fo_addRow_23 : decode b_Fo_addRow 23 = .ok (.iadd, 1) := by decide +kernel
theorem d_Fo_addRow_24 : decode b_Fo_addRow 24 = .ok (.istore 4, 2) := by decide +kernel
theorem d_Fo_addRow_26 : decode b_Fo_addRow 26 = .ok (.iload_n 3, 1) := by decide +kernel
theorem d_Fo_addRow_27 : decode b_Fo_addRow 27 = .ok (.ifCond .ne 7, 3) := by decide +kernel
theorem d_Fo_addRow_30 : decode b_Fo_addRow 30 = .ok (.iconst 0, 1) := by decide +kernel
theorem d_Fo_addRow_31 : decode b_Fo_addRow 31 = .ok (.goto 12, 3) := by decide +kernel
theorem d_Fo_addRow_34 : decode b_Fo_addRow 34 = .ok (.aload_n 0, 1) := by decide +kernel
theorem d_Fo_addRow_35 : decode b_Fo_addRow 35 = .ok (.getfield 15, 3) := by decide +kernel
theorem d_Fo_addRow_38 : decode b_Fo_addRow 38 = .ok (.iload 4, 2) := by decide +kernel
theorem d_Fo_addRow_40 : decode b_Fo_addRow 40 = .ok (.iconst 1, 1) := by decide +kernel
theorem d_Fo_addRow_41 : decode b_Fo_addRow 41 = .ok (.isub, 1) := by decide +kernel
theorem d_Fo_addRow_42 : decode b_Fo_addRow 42 = .ok (.iaload, 1) := by decide +kernel
theorem d_Fo_addRow_43 : decode b_Fo_addRow 43 = .ok (.istore 5, 2) := by decide +kernel
theorem d_Fo_addRow_45 : decode b_Fo_addRow 45 = .ok (.iload_n 2, 1) := by decide +kernel
theorem d_Fo_addRow_46 : decode b_Fo_addRow 46 = .ok (.iload 5, 2) := by decide +kernel
theorem d_Fo_addRow_48 : decode b_Fo_addRow 48 = .ok (.iconst 1, 1) := by decide +kernel
theorem d_Fo_addRow_49 : decode b_Fo_addRow 49 = .ok (.iadd, 1) := by decide +kernel
theorem d_Fo_addRow_50 : decode b_Fo_addRow 50 = .ok (.sipush 500, 3) := by decide +kernel
theorem d_Fo_addRow_53 : decode b_Fo_addRow 53 = .ok (.invokestatic 34, 3) := by decide +kernel
theorem d_Fo_addRow_56 : decode b_Fo_addRow 56 = .ok (.aload_n 0, 1) := by decide +kernel
theorem d_Fo_addRow_57 : decode b_Fo_addRow 57 = .ok (.getfield 15, 3) := by decide +kernel
theorem d_Fo_addRow_60 : decode b_Fo_addRow 60 = .ok (.iload 4, 2) := by decide +kernel
theorem d_Fo_addRow_62 : decode b_Fo_addRow 62 = .ok (.iload_n 2, 1) := by decide +kernel
theorem d_Fo_addRow_63 : decode b_Fo_addRow 63 = .ok (.iastore, 1) := by decide +kernel
theorem d_Fo_addRow_64 : decode b_Fo_addRow 64 = .ok (.aload_n 0, 1) := by decide +kernel
theorem d_Fo_addRow_65 : decode b_Fo_addRow 65 = .ok (.getfield 9, 3) := by decide +kernel
theorem d_Fo_addRow_68 : decode b_Fo_addRow 68 = .ok (.iload_n 1, 1) := by decide +kernel
theorem d_Fo_addRow_69 : decode b_Fo_addRow 69 = .ok (.iload_n 3, 1) := by decide +kernel
theorem d_Fo_addRow_70 : decode b_Fo_addRow 70 = .ok (.iconst 1, 1) := by decide +kernel
theorem d_Fo_addRow_71 : decode b_Fo_addRow 71 = .ok (.iadd, 1) := by decide +kernel
theorem d_Fo_addRow_72 : decode b_Fo_addRow 72 = .ok (.iastore, 1) := by decide +kernel
theorem d_Fo_addRow_73 : decode b_Fo_addRow 73 = .ok (.iload_n 3, 1) := by decide +kernel
theorem d_Fo_addRow_74 : decode b_Fo_addRow 74 = .ok (.ireturn, 1) := by decide +kernel
theorem d_La_point_0 : decode b_La_point 0 = .ok (.aload 5, 2) := by decide +kernel
theorem d_La_point_2 : decode b_La_point 2 = .ok (.iconst 0, 1) := by decide +kernel
theorem d_La_point_3 : decode b_La_point 3 = .ok (.aload_n 0, 1) := by decide +kernel
theorem d_La_point_4 : decode b_La_point 4 = .ok (.iload_n 1, 1) := by decide +kernel
theorem d_La_point_5 : decode b_La_point 5 = .ok (.iload_n 2, 1) := by decide +kernel
theorem d_La_point_6 : decode b_La_point 6 = .ok (.iload_n 3, 1) := by decide +kernel
theorem d_La_point_7 : decode b_La_point 7 = .ok (.iload 4, 2) := by decide +kernel
theorem d_La_point_9 : decode b_La_point 9 = .ok (.invokevirtual 27, 3) := by decide +kernel
theorem d_La_point_12 : decode b_La_point 12 = .ok (.i2l, 1) := by decide +kernel
theorem d_La_point_13 : decode b_La_point 13 = .ok (.lastore, 1) := by decide +kernel
theorem d_La_point_14 : decode b_La_point 14 = .ok (.goto 15, 3) := by decide +kernel
theorem d_La_point_17 : decode b_La_point 17 = .ok (.astore 6, 2) := by decide +kernel
theorem d_La_point_19 : decode b_La_point 19 = .ok (.iconst 1, 1) := by decide +kernel
theorem d_La_point_20 : decode b_La_point 20 = .ok (.ireturn, 1) := by decide +kernel
theorem d_La_point_21 : decode b_La_point 21 = .ok (.astore 6, 2) := by decide +kernel
theorem d_La_point_23 : decode b_La_point 23 = .ok (.iconst 2, 1) := by decide +kernel
theorem d_La_point_24 : decode b_La_point 24 = .ok (.ireturn, 1) := by decide +kernel
theorem d_La_point_25 : decode b_La_point 25 = .ok (.astore 6, 2) := by decide +kernel
theorem d_La_point_27 : decode b_La_point 27 = .ok (.iconst 3, 1) := by decide +kernel
theorem d_La_point_28 : decode b_La_point 28 = .ok (.ireturn, 1) := by decide +kernel
theorem d_La_point_29 : decode b_La_point 29 = .ok (.iconst 0, 1) := by decide +kernel
theorem d_La_point_30 : decode b_La_point 30 = .ok (.ireturn, 1) := by decide +kernel
theorem d_Cc_point_0 : decode b_Cc_point 0 = .ok (.aload_n 0, 1) := by decide +kernel
theorem d_Cc_point_1 : decode b_Cc_point 1 = .ok (.getfield 19, 3) := by decide +kernel
theorem d_Cc_point_4 : decode b_Cc_point 4 = .ok (.iload_n 1, 1) := by decide +kernel
theorem d_Cc_point_5 : decode b_Cc_point 5 = .ok (.iload_n 2, 1) := by decide +kernel
theorem d_Cc_point_6 : decode b_Cc_point 6 = .ok (.iload_n 3, 1) := by decide +kernel
theorem d_Cc_point_7 : decode b_Cc_point 7 = .ok (.iload 4, 2) := by decide +kernel
theorem d_Cc_point_9 : decode b_Cc_point 9 = .ok (.invokevirtual 70, 3) := by decide +kernel
theorem d_Cc_point_12 : decode b_Cc_point 12 = .ok (.ireturn, 1) := by decide +kernel
theorem d_Fo_addPoint_0 : decode b_Fo_addPoint 0 = .ok (.aload_n 0, 1) := by decide +kernel
theorem d_Fo_addPoint_1 : decode b_Fo_addPoint 1 = .ok (.iload_n 1, 1) := by decide +kernel
theorem d_Fo_addPoint_2 : decode b_Fo_addPoint 2 = .ok (.iload_n 2, 1) := by decide +kernel
theorem d_Fo_addPoint_3 : decode b_Fo_addPoint 3 = .ok (.invokevirtual 38, 3) := by decide +kernel
theorem d_Fo_addPoint_6 : decode b_Fo_addPoint 6 = .ok (.istore 5, 2) := by decide +kernel
theorem d_Fo_addPoint_8 : decode b_Fo_addPoint 8 = .ok (.aload_n 0, 1) := by decide +kernel
theorem d_Fo_addPoint_9 : decode b_Fo_addPoint 9 = .ok (.getfield 18, 3) := by decide +kernel
theorem d_Fo_addPoint_12 : decode b_Fo_addPoint 12 = .ok (.iload 5, 2) := by decide +kernel
theorem d_Fo_addPoint_14 : decode b_Fo_addPoint 14 = .ok (.iaload, 1) := by decide +kernel
theorem d_Fo_addPoint_15 : decode b_Fo_addPoint 15 = .ok (.istore 6, 2) := by decide +kernel
theorem d_Fo_addPoint_17 : decode b_Fo_addPoint 17 = .ok (.iload 6, 2) := by decide +kernel
theorem d_Fo_addPoint_19 : decode b_Fo_addPoint 19 = .ok (.bipush 6, 2) := by decide +kernel
theorem d_Fo_addPoint_21 : decode b_Fo_addPoint 21 = .ok (.invokestatic 31, 3) := by decide +kernel
theorem d_Fo_addPoint_24 : decode b_Fo_addPoint 24 = .ok (.iload 5, 2) := by decide +kernel
theorem d_Fo_addPoint_26 : decode b_Fo_addPoint 26 = .ok (.bipush 6, 2) := by decide +kernel
theorem d_Fo_addPoint_28 : decode b_Fo_addPoint 28 = .ok (.imul, 1) := by decide +kernel
theorem d_Fo_addPoint_29 : decode b_Fo_addPoint 29 = .ok (.iload 6, 2) := by decide +kernel
theorem d_Fo_addPoint_31 : decode b_Fo_addPoint 31 = .ok (.iadd, 1) := by decide +kernel
theorem d_Fo_addPoint_32 : decode b_Fo_addPoint 32 = .ok (.istore 7, 2) := by decide +kernel
theorem d_Fo_addPoint_34 : decode b_Fo_addPoint 34 = .ok (.iload 6, 2) := by decide +kernel
theorem d_Fo_addPoint_36 : decode b_Fo_addPoint 36 = .ok (.ifCond .ne 7, 3) := by decide +kernel
theorem d_Fo_addPoint_39 : decode b_Fo_addPoint 39 = .ok (.iconst (-1), 1) := by decide +kernel
theorem d_Fo_addPoint_40 : decode b_Fo_addPoint 40 = .ok (.goto 12, 3) := by decide +kernel
theorem d_Fo_addPoint_43 : decode b_Fo_addPoint 43 = .ok (.aload_n 0, 1) := by decide +kernel
theorem d_Fo_addPoint_44 : decode b_Fo_addPoint 44 = .ok (.getfield 21, 3) := by decide +kernel
theorem d_Fo_addPoint_47 : decode b_Fo_addPoint 47 = .ok (.iload 7, 2) := by decide +kernel
theorem d_Fo_addPoint_49 : decode b_Fo_addPoint 49 = .ok (.iconst 1, 1) := by decide +kernel
theorem d_Fo_addPoint_50 : decode b_Fo_addPoint 50 = .ok (.isub, 1) := by decide +kernel
theorem d_Fo_addPoint_51 : decode b_Fo_addPoint 51 = .ok (.iaload, 1) := by decide +kernel
theorem d_Fo_addPoint_52 : decode b_Fo_addPoint 52 = .ok (.istore 8, 2) := by decide +kernel
theorem d_Fo_addPoint_54 : decode b_Fo_addPoint 54 = .ok (.iload_n 3, 1) := by decide +kernel
theorem d_Fo_addPoint_55 : decode b_Fo_addPoint 55 = .ok (.iload 8, 2) := by decide +kernel
theorem d_Fo_addPoint_57 : decode b_Fo_addPoint 57 = .ok (.iconst 1, 1) := by decide +kernel
theorem d_Fo_addPoint_58 : decode b_Fo_addPoint 58 = .ok (.iadd, 1) := by decide +kernel
theorem d_Fo_addPoint_59 : decode b_Fo_addPoint 59 = .ok (.sipush 10000, 3) := by decide +kernel
theorem d_Fo_addPoint_62 : decode b_Fo_addPoint 62 = .ok (.invokestatic 34, 3) := by decide +kernel
theorem d_Fo_addPoint_65 : decode b_Fo_addPoint 65 = .ok (.iload 4, 2) := by decide +kernel
theorem d_Fo_addPoint_67 : decode b_Fo_addPoint 67 = .ok (.iconst 1, 1) := by decide +kernel
theorem d_Fo_addPoint_68 : decode b_Fo_addPoint 68 = .ok (.sipush 1000, 3) := by decide +kernel
theorem d_Fo_addPoint_71 : decode b_Fo_addPoint 71 = .ok (.invokestatic 34, 3) := by decide +kernel
theorem d_Fo_addPoint_74 : decode b_Fo_addPoint 74 = .ok (.aload_n 0, 1) := by decide +kernel
theorem d_Fo_addPoint_75 : decode b_Fo_addPoint 75 = .ok (.getfield 21, 3) := by decide +kernel
theorem d_Fo_addPoint_78 : decode b_Fo_addPoint 78 = .ok (.iload 7, 2) := by decide +kernel
theorem d_Fo_addPoint_80 : decode b_Fo_addPoint 80 = .ok (.iload_n 3, 1) := by decide +kernel
theorem d_Fo_addPoint_81 : decode b_Fo_addPoint 81 = .ok (.iastore, 1) := by decide +kernel
theorem d_Fo_addPoint_82 : decode b_Fo_addPoint 82 = .ok (.aload_n 0, 1) := by decide +kernel
theorem d_Fo_addPoint_83 : decode b_Fo_addPoint 83 = .ok (.getfield 24, 3) := by decide +kernel
theorem d_Fo_addPoint_86 : decode b_Fo_addPoint 86 = .ok (.iload 7, 2) := by decide +kernel
theorem d_Fo_addPoint_88 : decode b_Fo_addPoint 88 = .ok (.iload 4, 2) := by decide +kernel
theorem d_Fo_addPoint_90 : decode b_Fo_addPoint 90 = .ok (.iastore, 1) := by decide +kernel
theorem d_Fo_addPoint_91 : decode b_Fo_addPoint 91 = .ok (.aload_n 0, 1) := by decide +kernel
theorem d_Fo_addPoint_92 : decode b_Fo_addPoint 92 = .ok (.getfield 18, 3) := by decide +kernel
theorem d_Fo_addPoint_95 : decode b_Fo_addPoint 95 = .ok (.iload 5, 2) := by decide +kernel
theorem d_Fo_addPoint_97 : decode b_Fo_addPoint 97 = .ok (.iload 6, 2) := by decide +kernel
theorem d_Fo_addPoint_99 : decode b_Fo_addPoint 99 = .ok (.iconst 1, 1) := by decide +kernel
theorem d_Fo_addPoint_100 : decode b_Fo_addPoint 100 = .ok (.iadd, 1) := by decide +kernel
theorem d_Fo_addPoint_101 : decode b_Fo_addPoint 101 = .ok (.iastore, 1) := by decide +kernel
theorem d_Fo_addPoint_102 : decode b_Fo_addPoint 102 = .ok (.iload 6, 2) := by decide +kernel
theorem d_Fo_addPoint_104 : decode b_Fo_addPoint 104 = .ok (.iconst 1, 1) := by decide +kernel
theorem d_Fo_addPoint_105 : decode b_Fo_addPoint 105 = .ok (.iadd, 1) := by decide +kernel
theorem d_Fo_addPoint_106 : decode b_Fo_addPoint 106 = .ok (.ireturn, 1) := by decide +kernel
theorem d_Fo_placeOf_0 : decode b_Fo_placeOf 0 = .ok (.iload_n 1, 1) := by decide +kernel
theorem d_Fo_placeOf_1 : decode b_Fo_placeOf 1 = .ok (.iconst 4, 1) := by decide +kernel
theorem d_Fo_placeOf_2 : decode b_Fo_placeOf 2 = .ok (.invokestatic 27, 3) := by decide +kernel
theorem d_Fo_placeOf_5 : decode b_Fo_placeOf 5 = .ok (.iload_n 2, 1) := by decide +kernel
theorem d_Fo_placeOf_6 : decode b_Fo_placeOf 6 = .ok (.aload_n 0, 1) := by decide +kernel
theorem d_Fo_placeOf_7 : decode b_Fo_placeOf 7 = .ok (.getfield 9, 3) := by decide +kernel
theorem d_Fo_placeOf_10 : decode b_Fo_placeOf 10 = .ok (.iload_n 1, 1) := by decide +kernel
theorem d_Fo_placeOf_11 : decode b_Fo_placeOf 11 = .ok (.iaload, 1) := by decide +kernel
theorem d_Fo_placeOf_12 : decode b_Fo_placeOf 12 = .ok (.invokestatic 27, 3) := by decide +kernel
theorem d_Fo_placeOf_15 : decode b_Fo_placeOf 15 = .ok (.iload_n 1, 1) := by decide +kernel
theorem d_Fo_placeOf_16 : decode b_Fo_placeOf 16 = .ok (.bipush 8, 2) := by decide +kernel
theorem d_Fo_placeOf_18 : decode b_Fo_placeOf 18 = .ok (.imul, 1) := by decide +kernel
theorem d_Fo_placeOf_19 : decode b_Fo_placeOf 19 = .ok (.iload_n 2, 1) := by decide +kernel
theorem d_Fo_placeOf_20 : decode b_Fo_placeOf 20 = .ok (.iadd, 1) := by decide +kernel
theorem d_Fo_placeOf_21 : decode b_Fo_placeOf 21 = .ok (.ireturn, 1) := by decide +kernel
theorem d_La_value_0 : decode b_La_value 0 = .ok (.aload 4, 2) := by decide +kernel
theorem d_La_value_2 : decode b_La_value 2 = .ok (.iconst 0, 1) := by decide +kernel
theorem d_La_value_3 : decode b_La_value 3 = .ok (.aload_n 0, 1) := by decide +kernel
theorem d_La_value_4 : decode b_La_value 4 = .ok (.iload_n 1, 1) := by decide +kernel
theorem d_La_value_5 : decode b_La_value 5 = .ok (.iload_n 2, 1) := by decide +kernel
theorem d_La_value_6 : decode b_La_value 6 = .ok (.iload_n 3, 1) := by decide +kernel
theorem d_La_value_7 : decode b_La_value 7 = .ok (.invokevirtual 30, 3) := by decide +kernel
theorem d_La_value_10 : decode b_La_value 10 = .ok (.i2l, 1) := by decide +kernel
theorem d_La_value_11 : decode b_La_value 11 = .ok (.lastore, 1) := by decide +kernel
theorem d_La_value_12 : decode b_La_value 12 = .ok (.goto 7, 3) := by decide +kernel
theorem d_La_value_15 : decode b_La_value 15 = .ok (.astore 5, 2) := by decide +kernel
theorem d_La_value_17 : decode b_La_value 17 = .ok (.iconst 1, 1) := by decide +kernel
theorem d_La_value_18 : decode b_La_value 18 = .ok (.ireturn, 1) := by decide +kernel
theorem d_La_value_19 : decode b_La_value 19 = .ok (.iconst 0, 1) := by decide +kernel
theorem d_La_value_20 : decode b_La_value 20 = .ok (.ireturn, 1) := by decide +kernel
theorem d_Cc_value_0 : decode b_Cc_value 0 = .ok (.aload_n 0, 1) := by decide +kernel
theorem d_Cc_value_1 : decode b_Cc_value 1 = .ok (.getfield 19, 3) := by decide +kernel
theorem d_Cc_value_4 : decode b_Cc_value 4 = .ok (.iload_n 1, 1) := by decide +kernel
theorem d_Cc_value_5 : decode b_Cc_value 5 = .ok (.iload_n 2, 1) := by decide +kernel
theorem d_Cc_value_6 : decode b_Cc_value 6 = .ok (.iload_n 3, 1) := by decide +kernel
theorem d_Cc_value_7 : decode b_Cc_value 7 = .ok (.invokevirtual 73, 3) := by decide +kernel
theorem d_Cc_value_10 : decode b_Cc_value 10 = .ok (.ireturn, 1) := by decide +kernel
theorem d_Fo_valueAt_0 : decode b_Fo_valueAt 0 = .ok (.aload_n 0, 1) := by decide +kernel
theorem d_Fo_valueAt_1 : decode b_Fo_valueAt 1 = .ok (.iload_n 1, 1) := by decide +kernel
theorem d_Fo_valueAt_2 : decode b_Fo_valueAt 2 = .ok (.iload_n 2, 1) := by decide +kernel
theorem d_Fo_valueAt_3 : decode b_Fo_valueAt 3 = .ok (.invokevirtual 38, 3) := by decide +kernel
theorem d_Fo_valueAt_6 : decode b_Fo_valueAt 6 = .ok (.istore 4, 2) := by decide +kernel
theorem d_Fo_valueAt_8 : decode b_Fo_valueAt 8 = .ok (.iload 4, 2) := by decide +kernel
theorem d_Fo_valueAt_10 : decode b_Fo_valueAt 10 = .ok (.bipush 6, 2) := by decide +kernel
theorem d_Fo_valueAt_12 : decode b_Fo_valueAt 12 = .ok (.imul, 1) := by decide +kernel
theorem d_Fo_valueAt_13 : decode b_Fo_valueAt 13 = .ok (.istore 5, 2) := by decide +kernel
theorem d_Fo_valueAt_15 : decode b_Fo_valueAt 15 = .ok (.iload 5, 2) := by decide +kernel
theorem d_Fo_valueAt_17 : decode b_Fo_valueAt 17 = .ok (.aload_n 0, 1) := by decide +kernel
theorem d_Fo_valueAt_18 : decode b_Fo_valueAt 18 = .ok (.getfield 18, 3) := by decide +kernel
theorem d_Fo_valueAt_21 : decode b_Fo_valueAt 21 = .ok (.iload 4, 2) := by decide +kernel
theorem d_Fo_valueAt_23 : decode b_Fo_valueAt 23 = .ok (.iaload, 1) := by decide +kernel
theorem d_Fo_valueAt_24 : decode b_Fo_valueAt 24 = .ok (.iadd, 1) := by decide +kernel
theorem d_Fo_valueAt_25 : decode b_Fo_valueAt 25 = .ok (.istore 6, 2) := by decide +kernel
theorem d_Fo_valueAt_27 : decode b_Fo_valueAt 27 = .ok (.iload 5, 2) := by decide +kernel
theorem d_Fo_valueAt_29 : decode b_Fo_valueAt 29 = .ok (.istore 7, 2) := by decide +kernel
theorem d_Fo_valueAt_31 : decode b_Fo_valueAt 31 = .ok (.iload 7, 2) := by decide +kernel
theorem d_Fo_valueAt_33 : decode b_Fo_valueAt 33 = .ok (.iload 6, 2) := by decide +kernel
theorem d_Fo_valueAt_35 : decode b_Fo_valueAt 35 = .ok (.if_icmp .ge 62, 3) := by decide +kernel
theorem d_Fo_valueAt_38 : decode b_Fo_valueAt 38 = .ok (.aload_n 0, 1) := by decide +kernel
theorem d_Fo_valueAt_39 : decode b_Fo_valueAt 39 = .ok (.getfield 21, 3) := by decide +kernel
theorem d_Fo_valueAt_42 : decode b_Fo_valueAt 42 = .ok (.iload 7, 2) := by decide +kernel
theorem d_Fo_valueAt_44 : decode b_Fo_valueAt 44 = .ok (.iaload, 1) := by decide +kernel
theorem d_Fo_valueAt_45 : decode b_Fo_valueAt 45 = .ok (.iload_n 3, 1) := by decide +kernel
theorem d_Fo_valueAt_46 : decode b_Fo_valueAt 46 = .ok (.if_icmp .ne 11, 3) := by decide +kernel
theorem d_Fo_valueAt_49 : decode b_Fo_valueAt 49 = .ok (.aload_n 0, 1) := by decide +kernel
theorem d_Fo_valueAt_50 : decode b_Fo_valueAt 50 = .ok (.getfield 24, 3) := by decide +kernel
theorem d_Fo_valueAt_53 : decode b_Fo_valueAt 53 = .ok (.iload 7, 2) := by decide +kernel
theorem d_Fo_valueAt_55 : decode b_Fo_valueAt 55 = .ok (.iaload, 1) := by decide +kernel
theorem d_Fo_valueAt_56 : decode b_Fo_valueAt 56 = .ok (.ireturn, 1) := by decide +kernel
theorem d_Fo_valueAt_57 : decode b_Fo_valueAt 57 = .ok (.aload_n 0, 1) := by decide +kernel
theorem d_Fo_valueAt_58 : decode b_Fo_valueAt 58 = .ok (.getfield 21, 3) := by decide +kernel
theorem d_Fo_valueAt_61 : decode b_Fo_valueAt 61 = .ok (.iload 7, 2) := by decide +kernel
theorem d_Fo_valueAt_63 : decode b_Fo_valueAt 63 = .ok (.iaload, 1) := by decide +kernel
theorem d_Fo_valueAt_64 : decode b_Fo_valueAt 64 = .ok (.iload_n 3, 1) := by decide +kernel
theorem d_Fo_valueAt_65 : decode b_Fo_valueAt 65 = .ok (.if_icmp .le 26, 3) := by decide +kernel
theorem d_Fo_valueAt_68 : decode b_Fo_valueAt 68 = .ok (.iload 7, 2) := by decide +kernel
theorem d_Fo_valueAt_70 : decode b_Fo_valueAt 70 = .ok (.iload 5, 2) := by decide +kernel
theorem d_Fo_valueAt_72 : decode b_Fo_valueAt 72 = .ok (.if_icmp .ne 7, 3) := by decide +kernel
theorem d_Fo_valueAt_75 : decode b_Fo_valueAt 75 = .ok (.iconst (-1), 1) := by decide +kernel
theorem d_Fo_valueAt_76 : decode b_Fo_valueAt 76 = .ok (.goto 14, 3) := by decide +kernel
theorem d_Fo_valueAt_79 : decode b_Fo_valueAt 79 = .ok (.aload_n 0, 1) := by decide +kernel
theorem d_Fo_valueAt_80 : decode b_Fo_valueAt 80 = .ok (.iload 7, 2) := by decide +kernel
theorem d_Fo_valueAt_82 : decode b_Fo_valueAt 82 = .ok (.iconst 1, 1) := by decide +kernel
theorem d_Fo_valueAt_83 : decode b_Fo_valueAt 83 = .ok (.isub, 1) := by decide +kernel
theorem d_Fo_valueAt_84 : decode b_Fo_valueAt 84 = .ok (.iload 7, 2) := by decide +kernel
theorem d_Fo_valueAt_86 : decode b_Fo_valueAt 86 = .ok (.iload_n 3, 1) := by decide +kernel
theorem d_Fo_valueAt_87 : decode b_Fo_valueAt 87 = .ok (.invokevirtual 42, 3) := by decide +kernel
theorem d_Fo_valueAt_90 : decode b_Fo_valueAt 90 = .ok (.ireturn, 1) := by decide +kernel
theorem d_Fo_valueAt_91 : decode b_Fo_valueAt 91 = .ok (.iinc 7 1, 3) := by decide +kernel
theorem d_Fo_valueAt_94 : decode b_Fo_valueAt 94 = .ok (.goto (-63), 3) := by decide +kernel
theorem d_Fo_valueAt_97 : decode b_Fo_valueAt 97 = .ok (.iconst (-1), 1) := by decide +kernel
theorem d_Fo_valueAt_98 : decode b_Fo_valueAt 98 = .ok (.ireturn, 1) := by decide +kernel
theorem d_Fo_valueBetween_0 : decode b_Fo_valueBetween 0 = .ok (.aload_n 0, 1) := by decide +kernel
theorem d_Fo_valueBetween_1 : decode b_Fo_valueBetween 1 = .ok (.getfield 21, 3) := by decide +kernel
theorem d_Fo_valueBetween_4 : decode b_Fo_valueBetween 4 = .ok (.iload_n 2, 1) := by decide +kernel
theorem d_Fo_valueBetween_5 : decode b_Fo_valueBetween 5 = .ok (.iaload, 1) := by decide +kernel
theorem d_Fo_valueBetween_6 : decode b_Fo_valueBetween 6 = .ok (.aload_n 0, 1) := by decide +kernel
theorem d_Fo_valueBetween_7 : decode b_Fo_valueBetween 7 = .ok (.getfield 21, 3) := by decide +kernel
theorem d_Fo_valueBetween_10 : decode b_Fo_valueBetween 10 = .ok (.iload_n 1, 1) := by decide +kernel
theorem d_Fo_valueBetween_11 : decode b_Fo_valueBetween 11 = .ok (.iaload, 1) := by decide +kernel
theorem d_Fo_valueBetween_12 : decode b_Fo_valueBetween 12 = .ok (.isub, 1) := by decide +kernel
theorem d_Fo_valueBetween_13 : decode b_Fo_valueBetween 13 = .ok (.istore 4, 2) := by decide +kernel
theorem d_Fo_valueBetween_15 : decode b_Fo_valueBetween 15 = .ok (.iload 4, 2) := by decide +kernel
theorem d_Fo_valueBetween_17 : decode b_Fo_valueBetween 17 = .ok (.iconst 1, 1) := by decide +kernel
theorem d_Fo_valueBetween_18 : decode b_Fo_valueBetween 18 = .ok (.if_icmp .ge 10, 3) := by decide +kernel
theorem d_Fo_valueBetween_21 : decode b_Fo_valueBetween 21 = .ok (.aload_n 0, 1) := by decide +kernel
theorem d_Fo_valueBetween_22 : decode b_Fo_valueBetween 22 = .ok (.getfield 24, 3) := by decide +kernel
theorem d_Fo_valueBetween_25 : decode b_Fo_valueBetween 25 = .ok (.iload_n 2, 1) := by decide +kernel
theorem d_Fo_valueBetween_26 : decode b_Fo_valueBetween 26 = .ok (.iaload, 1) := by decide +kernel
theorem d_Fo_valueBetween_27 : decode b_Fo_valueBetween 27 = .ok (.ireturn, 1) := by decide +kernel
theorem d_Fo_valueBetween_28 : decode b_Fo_valueBetween 28 = .ok (.aload_n 0, 1) := by decide +kernel
theorem d_Fo_valueBetween_29 : decode b_Fo_valueBetween 29 = .ok (.getfield 24, 3) := by decide +kernel
theorem d_Fo_valueBetween_32 : decode b_Fo_valueBetween 32 = .ok (.iload_n 1, 1) := by decide +kernel
theorem d_Fo_valueBetween_33 : decode b_Fo_valueBetween 33 = .ok (.iaload, 1) := by decide +kernel
theorem d_Fo_valueBetween_34 : decode b_Fo_valueBetween 34 = .ok (.aload_n 0, 1) := by decide +kernel
theorem d_Fo_valueBetween_35 : decode b_Fo_valueBetween 35 = .ok (.getfield 24, 3) := by decide +kernel
theorem d_Fo_valueBetween_38 : decode b_Fo_valueBetween 38 = .ok (.iload_n 2, 1) := by decide +kernel
theorem d_Fo_valueBetween_39 : decode b_Fo_valueBetween 39 = .ok (.iaload, 1) := by decide +kernel
theorem d_Fo_valueBetween_40 : decode b_Fo_valueBetween 40 = .ok (.isub, 1) := by decide +kernel
theorem d_Fo_valueBetween_41 : decode b_Fo_valueBetween 41 = .ok (.istore 5, 2) := by decide +kernel
theorem d_Fo_valueBetween_43 : decode b_Fo_valueBetween 43 = .ok (.aload_n 0, 1) := by decide +kernel
theorem d_Fo_valueBetween_44 : decode b_Fo_valueBetween 44 = .ok (.getfield 24, 3) := by decide +kernel
theorem d_Fo_valueBetween_47 : decode b_Fo_valueBetween 47 = .ok (.iload_n 1, 1) := by decide +kernel
theorem d_Fo_valueBetween_48 : decode b_Fo_valueBetween 48 = .ok (.iaload, 1) := by decide +kernel
theorem d_Fo_valueBetween_49 : decode b_Fo_valueBetween 49 = .ok (.iload 5, 2) := by decide +kernel
theorem d_Fo_valueBetween_51 : decode b_Fo_valueBetween 51 = .ok (.iload_n 3, 1) := by decide +kernel
theorem d_Fo_valueBetween_52 : decode b_Fo_valueBetween 52 = .ok (.aload_n 0, 1) := by decide +kernel
theorem d_Fo_valueBetween_53 : decode b_Fo_valueBetween 53 = .ok (.getfield 21, 3) := by decide +kernel
theorem d_Fo_valueBetween_56 : decode b_Fo_valueBetween 56 = .ok (.iload_n 1, 1) := by decide +kernel
theorem d_Fo_valueBetween_57 : decode b_Fo_valueBetween 57 = .ok (.iaload, 1) := by decide +kernel
theorem d_Fo_valueBetween_58 : decode b_Fo_valueBetween 58 = .ok (.isub, 1) := by decide +kernel
theorem d_Fo_valueBetween_59 : decode b_Fo_valueBetween 59 = .ok (.imul, 1) := by decide +kernel
theorem d_Fo_valueBetween_60 : decode b_Fo_valueBetween 60 = .ok (.iload 4, 2) := by decide +kernel
theorem d_Fo_valueBetween_62 : decode b_Fo_valueBetween 62 = .ok (.invokestatic 49, 3) := by decide +kernel
theorem d_Fo_valueBetween_65 : decode b_Fo_valueBetween 65 = .ok (.isub, 1) := by decide +kernel
theorem d_Fo_valueBetween_66 : decode b_Fo_valueBetween 66 = .ok (.ireturn, 1) := by decide +kernel
theorem d_Ma_floorDiv_0 : decode b_Ma_floorDiv 0 = .ok (.iload_n 0, 1) := by decide +kernel
theorem d_Ma_floorDiv_1 : decode b_Ma_floorDiv 1 = .ok (.iload_n 1, 1) := by decide +kernel
theorem d_Ma_floorDiv_2 : decode b_Ma_floorDiv 2 = .ok (.idiv, 1) := by decide +kernel
theorem d_Ma_floorDiv_3 : decode b_Ma_floorDiv 3 = .ok (.istore_n 2, 1) := by decide +kernel
theorem d_Ma_floorDiv_4 : decode b_Ma_floorDiv 4 = .ok (.iload_n 0, 1) := by decide +kernel
theorem d_Ma_floorDiv_5 : decode b_Ma_floorDiv 5 = .ok (.iload_n 1, 1) := by decide +kernel
theorem d_Ma_floorDiv_6 : decode b_Ma_floorDiv 6 = .ok (.ixor, 1) := by decide +kernel
theorem d_Ma_floorDiv_7 : decode b_Ma_floorDiv 7 = .ok (.ifCond .ge 14, 3) := by decide +kernel
theorem d_Ma_floorDiv_10 : decode b_Ma_floorDiv 10 = .ok (.iload_n 2, 1) := by decide +kernel
theorem d_Ma_floorDiv_11 : decode b_Ma_floorDiv 11 = .ok (.iload_n 1, 1) := by decide +kernel
theorem d_Ma_floorDiv_12 : decode b_Ma_floorDiv 12 = .ok (.imul, 1) := by decide +kernel
theorem d_Ma_floorDiv_13 : decode b_Ma_floorDiv 13 = .ok (.iload_n 0, 1) := by decide +kernel
theorem d_Ma_floorDiv_14 : decode b_Ma_floorDiv 14 = .ok (.if_icmp .eq 7, 3) := by decide +kernel
theorem d_Ma_floorDiv_17 : decode b_Ma_floorDiv 17 = .ok (.iload_n 2, 1) := by decide +kernel
theorem d_Ma_floorDiv_18 : decode b_Ma_floorDiv 18 = .ok (.iconst 1, 1) := by decide +kernel
theorem d_Ma_floorDiv_19 : decode b_Ma_floorDiv 19 = .ok (.isub, 1) := by decide +kernel
theorem d_Ma_floorDiv_20 : decode b_Ma_floorDiv 20 = .ok (.ireturn, 1) := by decide +kernel
theorem d_Ma_floorDiv_21 : decode b_Ma_floorDiv 21 = .ok (.iload_n 2, 1) := by decide +kernel
theorem d_Ma_floorDiv_22 : decode b_Ma_floorDiv 22 = .ok (.ireturn, 1) := by decide +kernel
theorem d_La_thickness_0 : decode b_La_thickness 0 = .ok (.aload 4, 2) := by decide +kernel
theorem d_La_thickness_2 : decode b_La_thickness 2 = .ok (.iconst 0, 1) := by decide +kernel
theorem d_La_thickness_3 : decode b_La_thickness 3 = .ok (.aload_n 0, 1) := by decide +kernel
theorem d_La_thickness_4 : decode b_La_thickness 4 = .ok (.iload_n 1, 1) := by decide +kernel
theorem d_La_thickness_5 : decode b_La_thickness 5 = .ok (.iload_n 2, 1) := by decide +kernel
theorem d_La_thickness_6 : decode b_La_thickness 6 = .ok (.iload_n 3, 1) := by decide +kernel
theorem d_La_thickness_7 : decode b_La_thickness 7 = .ok (.invokevirtual 34, 3) := by decide +kernel
theorem d_La_thickness_10 : decode b_La_thickness 10 = .ok (.i2l, 1) := by decide +kernel
theorem d_La_thickness_11 : decode b_La_thickness 11 = .ok (.lastore, 1) := by decide +kernel
theorem d_La_thickness_12 : decode b_La_thickness 12 = .ok (.goto 7, 3) := by decide +kernel
theorem d_La_thickness_15 : decode b_La_thickness 15 = .ok (.astore 5, 2) := by decide +kernel
theorem d_La_thickness_17 : decode b_La_thickness 17 = .ok (.iconst 1, 1) := by decide +kernel
theorem d_La_thickness_18 : decode b_La_thickness 18 = .ok (.ireturn, 1) := by decide +kernel
theorem d_La_thickness_19 : decode b_La_thickness 19 = .ok (.iconst 0, 1) := by decide +kernel
theorem d_La_thickness_20 : decode b_La_thickness 20 = .ok (.ireturn, 1) := by decide +kernel
theorem d_Cc_thickness_0 : decode b_Cc_thickness 0 = .ok (.aload_n 0, 1) := by decide +kernel
theorem d_Cc_thickness_1 : decode b_Cc_thickness 1 = .ok (.getfield 19, 3) := by decide +kernel
theorem d_Cc_thickness_4 : decode b_Cc_thickness 4 = .ok (.iload_n 1, 1) := by decide +kernel
theorem d_Cc_thickness_5 : decode b_Cc_thickness 5 = .ok (.iload_n 2, 1) := by decide +kernel
theorem d_Cc_thickness_6 : decode b_Cc_thickness 6 = .ok (.iload_n 3, 1) := by decide +kernel
theorem d_Cc_thickness_7 : decode b_Cc_thickness 7 = .ok (.invokevirtual 77, 3) := by decide +kernel
theorem d_Cc_thickness_10 : decode b_Cc_thickness 10 = .ok (.ireturn, 1) := by decide +kernel
theorem d_Fo_leastThickness_0 : decode b_Fo_leastThickness 0 = .ok (.iload_n 1, 1) := by decide +kernel
theorem d_Fo_leastThickness_1 : decode b_Fo_leastThickness 1 = .ok (.iconst 4, 1) := by decide +kernel
theorem d_Fo_leastThickness_2 : decode b_Fo_leastThickness 2 = .ok (.invokestatic 27, 3) := by decide +kernel
theorem d_Fo_leastThickness_5 : decode b_Fo_leastThickness 5 = .ok (.aload_n 0, 1) := by decide +kernel
theorem d_Fo_leastThickness_6 : decode b_Fo_leastThickness 6 = .ok (.getfield 9, 3) := by decide +kernel
theorem d_Fo_leastThickness_9 : decode b_Fo_leastThickness 9 = .ok (.iload_n 1, 1) := by decide +kernel
theorem d_Fo_leastThickness_10 : decode b_Fo_leastThickness 10 = .ok (.iaload, 1) := by decide +kernel
theorem d_Fo_leastThickness_11 : decode b_Fo_leastThickness 11 = .ok (.istore 4, 2) := by decide +kernel
theorem d_Fo_leastThickness_13 : decode b_Fo_leastThickness 13 = .ok (.iconst 0, 1) := by decide +kernel
theorem d_Fo_leastThickness_14 : decode b_Fo_leastThickness 14 = .ok (.istore 5, 2) := by decide +kernel
theorem d_Fo_leastThickness_16 : decode b_Fo_leastThickness 16 = .ok (.iload 4, 2) := by decide +kernel
theorem d_Fo_leastThickness_18 : decode b_Fo_leastThickness 18 = .ok (.istore 6, 2) := by decide +kernel
theorem d_Fo_leastThickness_20 : decode b_Fo_leastThickness 20 = .ok (.iload 5, 2) := by decide +kernel
theorem d_Fo_leastThickness_22 : decode b_Fo_leastThickness 22 = .ok (.iload 6, 2) := by decide +kernel
theorem d_Fo_leastThickness_24 : decode b_Fo_leastThickness 24 = .ok (.if_icmp .ge 50, 3) := by decide +kernel
theorem d_Fo_leastThickness_27 : decode b_Fo_leastThickness 27 = .ok (.iload 5, 2) := by decide +kernel
theorem d_Fo_leastThickness_29 : decode b_Fo_leastThickness 29 = .ok (.iload 6, 2) := by decide +kernel
theorem d_Fo_leastThickness_31 : decode b_Fo_leastThickness 31 = .ok (.iadd, 1) := by decide +kernel
theorem d_Fo_leastThickness_32 : decode b_Fo_leastThickness 32 = .ok (.iconst 2, 1) := by decide +kernel
theorem d_Fo_leastThickness_33 : decode b_Fo_leastThickness 33 = .ok (.idiv, 1) := by decide +kernel
theorem d_Fo_leastThickness_34 : decode b_Fo_leastThickness 34 = .ok (.istore 7, 2) := by decide +kernel
theorem d_Fo_leastThickness_36 : decode b_Fo_leastThickness 36 = .ok (.aload_n 0, 1) := by decide +kernel
theorem d_Fo_leastThickness_37 : decode b_Fo_leastThickness 37 = .ok (.iload_n 1, 1) := by decide +kernel
theorem d_Fo_leastThickness_38 : decode b_Fo_leastThickness 38 = .ok (.iload 7, 2) := by decide +kernel
theorem d_Fo_leastThickness_40 : decode b_Fo_leastThickness 40 = .ok (.iload_n 2, 1) := by decide +kernel
theorem d_Fo_leastThickness_41 : decode b_Fo_leastThickness 41 = .ok (.invokevirtual 46, 3) := by decide +kernel
theorem d_Fo_leastThickness_44 : decode b_Fo_leastThickness 44 = .ok (.istore 8, 2) := by decide +kernel
theorem d_Fo_leastThickness_46 : decode b_Fo_leastThickness 46 = .ok (.iload 8, 2) := by decide +kernel
theorem d_Fo_leastThickness_48 : decode b_Fo_leastThickness 48 = .ok (.iconst (-1), 1) := by decide +kernel
theorem d_Fo_leastThickness_49 : decode b_Fo_leastThickness 49 = .ok (.if_icmp .eq 16, 3) := by decide +kernel
theorem d_Fo_leastThickness_52 : decode b_Fo_leastThickness 52 = .ok (.iload 8, 2) := by decide +kernel
theorem d_Fo_leastThickness_54 : decode b_Fo_leastThickness 54 = .ok (.iload_n 3, 1) := by decide +kernel
theorem d_Fo_leastThickness_55 : decode b_Fo_leastThickness 55 = .ok (.if_icmp .gt 10, 3) := by decide +kernel
theorem d_Fo_leastThickness_58 : decode b_Fo_leastThickness 58 = .ok (.iload 7, 2) := by decide +kernel
theorem d_Fo_leastThickness_60 : decode b_Fo_leastThickness 60 = .ok (.istore 6, 2) := by decide +kernel
theorem d_Fo_leastThickness_62 : decode b_Fo_leastThickness 62 = .ok (.goto 9, 3) := by decide +kernel
theorem d_Fo_leastThickness_65 : decode b_Fo_leastThickness 65 = .ok (.iload 7, 2) := by decide +kernel
theorem d_Fo_leastThickness_67 : decode b_Fo_leastThickness 67 = .ok (.iconst 1, 1) := by decide +kernel
theorem d_Fo_leastThickness_68 : decode b_Fo_leastThickness 68 = .ok (.iadd, 1) := by decide +kernel
theorem d_Fo_leastThickness_69 : decode b_Fo_leastThickness 69 = .ok (.istore 5, 2) := by decide +kernel
theorem d_Fo_leastThickness_71 : decode b_Fo_leastThickness 71 = .ok (.goto (-51), 3) := by decide +kernel
theorem d_Fo_leastThickness_74 : decode b_Fo_leastThickness 74 = .ok (.iload 5, 2) := by decide +kernel
theorem d_Fo_leastThickness_76 : decode b_Fo_leastThickness 76 = .ok (.iload 4, 2) := by decide +kernel
theorem d_Fo_leastThickness_78 : decode b_Fo_leastThickness 78 = .ok (.if_icmp .ge 18, 3) := by decide +kernel
theorem d_Fo_leastThickness_81 : decode b_Fo_leastThickness 81 = .ok (.aload_n 0, 1) := by decide +kernel
theorem d_Fo_leastThickness_82 : decode b_Fo_leastThickness 82 = .ok (.getfield 15, 3) := by decide +kernel
theorem d_Fo_leastThickness_85 : decode b_Fo_leastThickness 85 = .ok (.iload_n 1, 1) := by decide +kernel
theorem d_Fo_leastThickness_86 : decode b_Fo_leastThickness 86 = .ok (.bipush 8, 2) := by decide +kernel
theorem d_Fo_leastThickness_88 : decode b_Fo_leastThickness 88 = .ok (.imul, 1) := by decide +kernel
theorem d_Fo_leastThickness_89 : decode b_Fo_leastThickness 89 = .ok (.iload 5, 2) := by decide +kernel
theorem d_Fo_leastThickness_91 : decode b_Fo_leastThickness 91 = .ok (.iadd, 1) := by decide +kernel
theorem d_Fo_leastThickness_92 : decode b_Fo_leastThickness 92 = .ok (.iaload, 1) := by decide +kernel
theorem d_Fo_leastThickness_93 : decode b_Fo_leastThickness 93 = .ok (.goto 4, 3) := by decide +kernel
theorem d_Fo_leastThickness_96 : decode b_Fo_leastThickness 96 = .ok (.iconst (-1), 1) := by decide +kernel
theorem d_Fo_leastThickness_97 : decode b_Fo_leastThickness 97 = .ok (.ireturn, 1) := by decide +kernel
theorem d_La_pack_0 : decode b_La_pack 0 = .ok (.aload_n 3, 1) := by decide +kernel
theorem d_La_pack_1 : decode b_La_pack 1 = .ok (.iconst 0, 1) := by decide +kernel
theorem d_La_pack_2 : decode b_La_pack 2 = .ok (.aload_n 0, 1) := by decide +kernel
theorem d_La_pack_3 : decode b_La_pack 3 = .ok (.iload_n 1, 1) := by decide +kernel
theorem d_La_pack_4 : decode b_La_pack 4 = .ok (.iload_n 2, 1) := by decide +kernel
theorem d_La_pack_5 : decode b_La_pack 5 = .ok (.invokevirtual 37, 3) := by decide +kernel
theorem d_La_pack_8 : decode b_La_pack 8 = .ok (.i2l, 1) := by decide +kernel
theorem d_La_pack_9 : decode b_La_pack 9 = .ok (.lastore, 1) := by decide +kernel
theorem d_La_pack_10 : decode b_La_pack 10 = .ok (.goto 11, 3) := by decide +kernel
theorem d_La_pack_13 : decode b_La_pack 13 = .ok (.astore 4, 2) := by decide +kernel
theorem d_La_pack_15 : decode b_La_pack 15 = .ok (.iconst 1, 1) := by decide +kernel
theorem d_La_pack_16 : decode b_La_pack 16 = .ok (.ireturn, 1) := by decide +kernel
theorem d_La_pack_17 : decode b_La_pack 17 = .ok (.astore 4, 2) := by decide +kernel
theorem d_La_pack_19 : decode b_La_pack 19 = .ok (.iconst 2, 1) := by decide +kernel
theorem d_La_pack_20 : decode b_La_pack 20 = .ok (.ireturn, 1) := by decide +kernel
theorem d_La_pack_21 : decode b_La_pack 21 = .ok (.iconst 0, 1) := by decide +kernel
theorem d_La_pack_22 : decode b_La_pack 22 = .ok (.ireturn, 1) := by decide +kernel
theorem d_Cc_pack_0 : decode b_Cc_pack 0 = .ok (.aload_n 0, 1) := by decide +kernel
theorem d_Cc_pack_1 : decode b_Cc_pack 1 = .ok (.getfield 26, 3) := by decide +kernel
theorem d_Cc_pack_4 : decode b_Cc_pack 4 = .ok (.aload_n 0, 1) := by decide +kernel
theorem d_Cc_pack_5 : decode b_Cc_pack 5 = .ok (.getfield 10, 3) := by decide +kernel
theorem d_Cc_pack_8 : decode b_Cc_pack 8 = .ok (.iload_n 1, 1) := by decide +kernel
theorem d_Cc_pack_9 : decode b_Cc_pack 9 = .ok (.iload_n 2, 1) := by decide +kernel
theorem d_Cc_pack_10 : decode b_Cc_pack 10 = .ok (.invokevirtual 80, 3) := by decide +kernel
theorem d_Cc_pack_13 : decode b_Cc_pack 13 = .ok (.ireturn, 1) := by decide +kernel
theorem d_Pk_packSet_0 : decode b_Pk_packSet 0 = .ok (.iload_n 2, 1) := by decide +kernel
theorem d_Pk_packSet_1 : decode b_Pk_packSet 1 = .ok (.aload_n 1, 1) := by decide +kernel
theorem d_Pk_packSet_2 : decode b_Pk_packSet 2 = .ok (.getfield 28, 3) := by decide +kernel
theorem d_Pk_packSet_5 : decode b_Pk_packSet 5 = .ok (.ishr, 1) := by decide +kernel
theorem d_Pk_packSet_6 : decode b_Pk_packSet 6 = .ok (.ifCond .eq 13, 3) := by decide +kernel
theorem d_Pk_packSet_9 : decode b_Pk_packSet 9 = .ok (.new 34, 3) := by decide +kernel
theorem d_Pk_packSet_12 : decode b_Pk_packSet 12 = .ok (.dup, 1) := by decide +kernel
theorem d_Pk_packSet_13 : decode b_Pk_packSet 13 = .ok (.ldc 36, 2) := by decide +kernel
theorem d_Pk_packSet_15 : decode b_Pk_packSet 15 = .ok (.invokespecial 38, 3) := by decide +kernel
theorem d_Pk_packSet_18 : decode b_Pk_packSet 18 = .ok (.athrow, 1) := by decide +kernel
theorem d_Pk_packSet_19 : decode b_Pk_packSet 19 = .ok (.iload_n 2, 1) := by decide +kernel
theorem d_Pk_packSet_20 : decode b_Pk_packSet 20 = .ok (.ifCond .ne 13, 3) := by decide +kernel
theorem d_Pk_packSet_23 : decode b_Pk_packSet 23 = .ok (.new 41, 3) := by decide +kernel
theorem d_Pk_packSet_26 : decode b_Pk_packSet 26 = .ok (.dup, 1) := by decide +kernel
theorem d_Pk_packSet_27 : decode b_Pk_packSet 27 = .ok (.ldc 43, 2) := by decide +kernel
theorem d_Pk_packSet_29 : decode b_Pk_packSet 29 = .ok (.invokespecial 45, 3) := by decide +kernel
theorem d_Pk_packSet_32 : decode b_Pk_packSet 32 = .ok (.athrow, 1) := by decide +kernel
theorem d_Pk_packSet_33 : decode b_Pk_packSet 33 = .ok (.iload_n 3, 1) := by decide +kernel
theorem d_Pk_packSet_34 : decode b_Pk_packSet 34 = .ok (.iconst 0, 1) := by decide +kernel
theorem d_Pk_packSet_35 : decode b_Pk_packSet 35 = .ok (.bipush 20, 2) := by decide +kernel
theorem d_Pk_packSet_37 : decode b_Pk_packSet 37 = .ok (.invokestatic 46, 3) := by decide +kernel
theorem d_Pk_packSet_40 : decode b_Pk_packSet 40 = .ok (.iconst 0, 1) := by decide +kernel
theorem d_Pk_packSet_41 : decode b_Pk_packSet 41 = .ok (.istore 4, 2) := by decide +kernel
theorem d_Pk_packSet_43 : decode b_Pk_packSet 43 = .ok (.iload 4, 2) := by decide +kernel
theorem d_Pk_packSet_45 : decode b_Pk_packSet 45 = .ok (.aload_n 1, 1) := by decide +kernel
theorem d_Pk_packSet_46 : decode b_Pk_packSet 46 = .ok (.getfield 28, 3) := by decide +kernel
theorem d_Pk_packSet_49 : decode b_Pk_packSet 49 = .ok (.if_icmp .ge 29, 3) := by decide +kernel
theorem d_Pk_packSet_52 : decode b_Pk_packSet 52 = .ok (.iload_n 2, 1) := by decide +kernel
theorem d_Pk_packSet_53 : decode b_Pk_packSet 53 = .ok (.iload 4, 2) := by decide +kernel
theorem d_Pk_packSet_55 : decode b_Pk_packSet 55 = .ok (.invokestatic 50, 3) := by decide +kernel
theorem d_Pk_packSet_58 : decode b_Pk_packSet 58 = .ok (.ifCond .eq 14, 3) := by decide +kernel
theorem d_Pk_packSet_61 : decode b_Pk_packSet 61 = .ok (.aload_n 1, 1) := by decide +kernel
theorem d_Pk_packSet_62 : decode b_Pk_packSet 62 = .ok (.iload 4, 2) := by decide +kernel
theorem d_Pk_packSet_64 : decode b_Pk_packSet 64 = .ok (.invokevirtual 54, 3) := by decide +kernel
theorem d_Pk_packSet_67 : decode b_Pk_packSet 67 = .ok (.ifCond .ne 5, 3) := by decide +kernel
theorem d_Pk_packSet_70 : decode b_Pk_packSet 70 = .ok (.iconst (-1), 1) := by decide +kernel
theorem d_Pk_packSet_71 : decode b_Pk_packSet 71 = .ok (.ireturn, 1) := by decide +kernel
theorem d_Pk_packSet_72 : decode b_Pk_packSet 72 = .ok (.iinc 4 1, 3) := by decide +kernel
theorem d_Pk_packSet_75 : decode b_Pk_packSet 75 = .ok (.goto (-32), 3) := by decide +kernel
theorem d_Pk_packSet_78 : decode b_Pk_packSet 78 = .ok (.aload_n 0, 1) := by decide +kernel
theorem d_Pk_packSet_79 : decode b_Pk_packSet 79 = .ok (.iload_n 2, 1) := by decide +kernel
theorem d_Pk_packSet_80 : decode b_Pk_packSet 80 = .ok (.putfield 58, 3) := by decide +kernel
theorem d_Pk_packSet_83 : decode b_Pk_packSet 83 = .ok (.aload_n 0, 1) := by decide +kernel
theorem d_Pk_packSet_84 : decode b_Pk_packSet 84 = .ok (.iload_n 3, 1) := by decide +kernel
theorem d_Pk_packSet_85 : decode b_Pk_packSet 85 = .ok (.putfield 61, 3) := by decide +kernel
theorem d_Pk_packSet_88 : decode b_Pk_packSet 88 = .ok (.aload_n 0, 1) := by decide +kernel
theorem d_Pk_packSet_89 : decode b_Pk_packSet 89 = .ok (.aload_n 1, 1) := by decide +kernel
theorem d_Pk_packSet_90 : decode b_Pk_packSet 90 = .ok (.invokevirtual 64, 3) := by decide +kernel
theorem d_Pk_packSet_93 : decode b_Pk_packSet 93 = .ok (.aload_n 0, 1) := by decide +kernel
theorem d_Pk_packSet_94 : decode b_Pk_packSet 94 = .ok (.aload_n 1, 1) := by decide +kernel
theorem d_Pk_packSet_95 : decode b_Pk_packSet 95 = .ok (.invokevirtual 68, 3) := by decide +kernel
theorem d_Pk_packSet_98 : decode b_Pk_packSet 98 = .ok (.aload_n 0, 1) := by decide +kernel
theorem d_Pk_packSet_99 : decode b_Pk_packSet 99 = .ok (.iconst 1, 1) := by decide +kernel
theorem d_Pk_packSet_100 : decode b_Pk_packSet 100 = .ok (.putfield 24, 3) := by decide +kernel
theorem d_Pk_packSet_103 : decode b_Pk_packSet 103 = .ok (.iload_n 2, 1) := by decide +kernel
theorem d_Pk_packSet_104 : decode b_Pk_packSet 104 = .ok (.invokestatic 71, 3) := by decide +kernel
theorem d_Pk_packSet_107 : decode b_Pk_packSet 107 = .ok (.ireturn, 1) := by decide +kernel
theorem d_Pk_isIn_0 : decode b_Pk_isIn 0 = .ok (.iload_n 0, 1) := by decide +kernel
theorem d_Pk_isIn_1 : decode b_Pk_isIn 1 = .ok (.iload_n 1, 1) := by decide +kernel
theorem d_Pk_isIn_2 : decode b_Pk_isIn 2 = .ok (.ishr, 1) := by decide +kernel
theorem d_Pk_isIn_3 : decode b_Pk_isIn 3 = .ok (.iconst 1, 1) := by decide +kernel
theorem d_Pk_isIn_4 : decode b_Pk_isIn 4 = .ok (.iand, 1) := by decide +kernel
theorem d_Pk_isIn_5 : decode b_Pk_isIn 5 = .ok (.ifCond .eq 7, 3) := by decide +kernel
theorem d_Pk_isIn_8 : decode b_Pk_isIn 8 = .ok (.iconst 1, 1) := by decide +kernel
theorem d_Pk_isIn_9 : decode b_Pk_isIn 9 = .ok (.goto 4, 3) := by decide +kernel
theorem d_Pk_isIn_12 : decode b_Pk_isIn 12 = .ok (.iconst 0, 1) := by decide +kernel
theorem d_Pk_isIn_13 : decode b_Pk_isIn 13 = .ok (.ireturn, 1) := by decide +kernel
theorem d_Go_mayStandAnyhow_0 : decode b_Go_mayStandAnyhow 0 = .ok (.aload_n 0, 1) := by decide +kernel
theorem d_Go_mayStandAnyhow_1 : decode b_Go_mayStandAnyhow 1 = .ok (.getfield 18, 3) := by decide +kernel
theorem d_Go_mayStandAnyhow_4 : decode b_Go_mayStandAnyhow 4 = .ok (.iload_n 1, 1) := by decide +kernel
theorem d_Go_mayStandAnyhow_5 : decode b_Go_mayStandAnyhow 5 = .ok (.iaload, 1) := by decide +kernel
theorem d_Go_mayStandAnyhow_6 : decode b_Go_mayStandAnyhow 6 = .ok (.bipush 63, 2) := by decide +kernel
theorem d_Go_mayStandAnyhow_8 : decode b_Go_mayStandAnyhow 8 = .ok (.if_icmp .eq 7, 3) := by decide +kernel
theorem d_Go_mayStandAnyhow_11 : decode b_Go_mayStandAnyhow 11 = .ok (.iconst 1, 1) := by decide +kernel
theorem d_Go_mayStandAnyhow_12 : decode b_Go_mayStandAnyhow 12 = .ok (.goto 4, 3) := by decide +kernel
theorem d_Go_mayStandAnyhow_15 : decode b_Go_mayStandAnyhow 15 = .ok (.iconst 0, 1) := by decide +kernel
theorem d_Go_mayStandAnyhow_16 : decode b_Go_mayStandAnyhow 16 = .ok (.ireturn, 1) := by decide +kernel
theorem d_Pk_findLeast_0 : decode b_Pk_findLeast 0 = .ok (.aload_n 0, 1) := by decide +kernel
theorem d_Pk_findLeast_1 : decode b_Pk_findLeast 1 = .ok (.ldc2_w 93, 3) := by decide +kernel
theorem d_Pk_findLeast_4 : decode b_Pk_findLeast 4 = .ok (.putfield 95, 3) := by decide +kernel
theorem d_Pk_findLeast_7 : decode b_Pk_findLeast 7 = .ok (.aload_n 1, 1) := by decide +kernel
theorem d_Pk_findLeast_8 : decode b_Pk_findLeast 8 = .ok (.getfield 28, 3) := by decide +kernel
theorem d_Pk_findLeast_11 : decode b_Pk_findLeast 11 = .ok (.iconst 3, 1) := by decide +kernel
theorem d_Pk_findLeast_12 : decode b_Pk_findLeast 12 = .ok (.imul, 1) := by decide +kernel
theorem d_Pk_findLeast_13 : decode b_Pk_findLeast 13 = .ok (.istore_n 2, 1) := by decide +kernel
theorem d_Pk_findLeast_14 : decode b_Pk_findLeast 14 = .ok (.iconst 0, 1) := by decide +kernel
theorem d_Pk_findLeast_15 : decode b_Pk_findLeast 15 = .ok (.istore_n 3, 1) := by decide +kernel
theorem d_Pk_findLeast_16 : decode b_Pk_findLeast 16 = .ok (.iload_n 3, 1) := by decide +kernel
theorem d_Pk_findLeast_17 : decode b_Pk_findLeast 17 = .ok (.iload_n 2, 1) := by decide +kernel
theorem d_Pk_findLeast_18 : decode b_Pk_findLeast 18 = .ok (.if_icmp .ge 69, 3) := by decide +kernel
theorem d_Pk_findLeast_21 : decode b_Pk_findLeast 21 = .ok (.iconst 0, 1) := by decide +kernel
theorem d_Pk_findLeast_22 : decode b_Pk_findLeast 22 = .ok (.istore 4, 2) := by decide +kernel
theorem d_Pk_findLeast_24 : decode b_Pk_findLeast 24 = .ok (.iload 4, 2) := by decide +kernel
theorem d_Pk_findLeast_26 : decode b_Pk_findLeast 26 = .ok (.iload_n 2, 1) := by decide +kernel
theorem d_Pk_findLeast_27 : decode b_Pk_findLeast 27 = .ok (.if_icmp .ge 54, 3) := by decide +kernel
theorem d_Pk_findLeast_30 : decode b_Pk_findLeast 30 = .ok (.aload_n 0, 1) := by decide +kernel
theorem d_Pk_findLeast_31 : decode b_Pk_findLeast 31 = .ok (.getfield 58, 3) := by decide +kernel
theorem d_Pk_findLeast_34 : decode b_Pk_findLeast 34 = .ok (.iload_n 3, 1) := by decide +kernel
theorem d_Pk_findLeast_35 : decode b_Pk_findLeast 35 = .ok (.iconst 3, 1) := by decide +kernel
theorem d_Pk_findLeast_36 : decode b_Pk_findLeast 36 = .ok (.idiv, 1) := by decide +kernel
theorem d_Pk_findLeast_37 : decode b_Pk_findLeast 37 = .ok (.invokestatic 50, 3) := by decide +kernel
theorem d_Pk_findLeast_40 : decode b_Pk_findLeast 40 = .ok (.ifCond .eq 35, 3) := by decide +kernel
theorem d_Pk_findLeast_43 : decode b_Pk_findLeast 43 = .ok (.aload_n 0, 1) := by decide +kernel
theorem d_Pk_findLeast_44 : decode b_Pk_findLeast 44 = .ok (.getfield 58, 3) := by decide +kernel
theorem d_Pk_findLeast_47 : decode b_Pk_findLeast 47 = .ok (.iload 4, 2) := by decide +kernel
theorem d_Pk_findLeast_49 : decode b_Pk_findLeast 49 = .ok (.iconst 3, 1) := by decide +kernel
theorem d_Pk_findLeast_50 : decode b_Pk_findLeast 50 = .ok (.idiv, 1) := by decide +kernel
theorem d_Pk_findLeast_51 : decode b_Pk_findLeast 51 = .ok (.invokestatic 50, 3) := by decide +kernel
theorem d_Pk_findLeast_54 : decode b_Pk_findLeast 54 = .ok (.ifCond .eq 21, 3) := by decide +kernel
theorem d_Pk_findLeast_57 : decode b_Pk_findLeast 57 = .ok (.aload_n 0, 1) := by decide +kernel
theorem d_Pk_findLeast_58 : decode b_Pk_findLeast 58 = .ok (.aload_n 1, 1) := by decide +kernel
theorem d_Pk_findLeast_59 : decode b_Pk_findLeast 59 = .ok (.aload_n 1, 1) := by decide +kernel
theorem d_Pk_findLeast_60 : decode b_Pk_findLeast 60 = .ok (.getfield 99, 3) := by decide +kernel
theorem d_Pk_findLeast_63 : decode b_Pk_findLeast 63 = .ok (.iload_n 3, 1) := by decide +kernel
theorem d_Pk_findLeast_64 : decode b_Pk_findLeast 64 = .ok (.iaload, 1) := by decide +kernel
theorem d_Pk_findLeast_65 : decode b_Pk_findLeast 65 = .ok (.aload_n 1, 1) := by decide +kernel
theorem d_Pk_findLeast_66 : decode b_Pk_findLeast 66 = .ok (.getfield 99, 3) := by decide +kernel
theorem d_Pk_findLeast_69 : decode b_Pk_findLeast 69 = .ok (.iload 4, 2) := by decide +kernel
theorem d_Pk_findLeast_71 : decode b_Pk_findLeast 71 = .ok (.iaload, 1) := by decide +kernel
theorem d_Pk_findLeast_72 : decode b_Pk_findLeast 72 = .ok (.invokevirtual 100, 3) := by decide +kernel
theorem d_Pk_findLeast_75 : decode b_Pk_findLeast 75 = .ok (.iinc 4 1, 3) := by decide +kernel
theorem d_Pk_findLeast_78 : decode b_Pk_findLeast 78 = .ok (.goto (-54), 3) := by decide +kernel
theorem d_Pk_findLeast_81 : decode b_Pk_findLeast 81 = .ok (.iinc 3 1, 3) := by decide +kernel
theorem d_Pk_findLeast_84 : decode b_Pk_findLeast 84 = .ok (.goto (-68), 3) := by decide +kernel
theorem d_Pk_findLeast_87 : decode b_Pk_findLeast 87 = .ok (.return_, 1) := by decide +kernel
theorem d_Pk_tryWithin_0 : decode b_Pk_tryWithin 0 = .ok (.aload_n 0, 1) := by decide +kernel
theorem d_Pk_tryWithin_1 : decode b_Pk_tryWithin 1 = .ok (.getfield 61, 3) := by decide +kernel
theorem d_Pk_tryWithin_4 : decode b_Pk_tryWithin 4 = .ok (.istore 4, 2) := by decide +kernel
theorem d_Pk_tryWithin_6 : decode b_Pk_tryWithin 6 = .ok (.iconst 0, 1) := by decide +kernel
theorem d_Pk_tryWithin_7 : decode b_Pk_tryWithin 7 = .ok (.istore 5, 2) := by decide +kernel
theorem d_Pk_tryWithin_9 : decode b_Pk_tryWithin 9 = .ok (.iload 5, 2) := by decide +kernel
theorem d_Pk_tryWithin_11 : decode b_Pk_tryWithin 11 = .ok (.bipush 6, 2) := by decide +kernel
theorem d_Pk_tryWithin_13 : decode b_Pk_tryWithin 13 = .ok (.if_icmp .ge 74, 3) := by decide +kernel
theorem d_Pk_tryWithin_16 : decode b_Pk_tryWithin 16 = .ok (.aload_n 0, 1) := by decide +kernel
theorem d_Pk_tryWithin_17 : decode b_Pk_tryWithin 17 = .ok (.getfield 21, 3) := by decide +kernel
theorem d_Pk_tryWithin_20 : decode b_Pk_tryWithin 20 = .ok (.iload 5, 2) := by decide +kernel
theorem d_Pk_tryWithin_22 : decode b_Pk_tryWithin 22 = .ok (.iconst (-1), 1) := by decide +kernel
theorem d_Pk_tryWithin_23 : decode b_Pk_tryWithin 23 = .ok (.iastore, 1) := by decide +kernel
theorem d_Pk_tryWithin_24 : decode b_Pk_tryWithin 24 = .ok (.aload_n 0, 1) := by decide +kernel
theorem d_Pk_tryWithin_25 : decode b_Pk_tryWithin 25 = .ok (.getfield 58, 3) := by decide +kernel
theorem d_Pk_tryWithin_28 : decode b_Pk_tryWithin 28 = .ok (.iload 5, 2) := by decide +kernel
theorem d_Pk_tryWithin_30 : decode b_Pk_tryWithin 30 = .ok (.invokestatic 50, 3) := by decide +kernel
theorem d_Pk_tryWithin_33 : decode b_Pk_tryWithin 33 = .ok (.ifCond .eq 48, 3) := by decide +kernel
theorem d_Pk_tryWithin_36 : decode b_Pk_tryWithin 36 = .ok (.aload_n 1, 1) := by decide +kernel
theorem d_Pk_tryWithin_37 : decode b_Pk_tryWithin 37 = .ok (.iload 5, 2) := by decide +kernel
theorem d_Pk_tryWithin_39 : decode b_Pk_tryWithin 39 = .ok (.iload_n 2, 1) := by decide +kernel
theorem d_Pk_tryWithin_40 : decode b_Pk_tryWithin 40 = .ok (.iload_n 3, 1) := by decide +kernel
theorem d_Pk_tryWithin_41 : decode b_Pk_tryWithin 41 = .ok (.invokevirtual 104, 3) := by decide +kernel
theorem d_Pk_tryWithin_44 : decode b_Pk_tryWithin 44 = .ok (.istore 6, 2) := by decide +kernel
theorem d_Pk_tryWithin_46 : decode b_Pk_tryWithin 46 = .ok (.iload 6, 2) := by decide +kernel
theorem d_Pk_tryWithin_48 : decode b_Pk_tryWithin 48 = .ok (.iconst (-1), 1) := by decide +kernel
theorem d_Pk_tryWithin_49 : decode b_Pk_tryWithin 49 = .ok (.if_icmp .ne 4, 3) := by decide +kernel
theorem d_Pk_tryWithin_52 : decode b_Pk_tryWithin 52 = .ok (.return_, 1) := by decide +kernel
theorem d_Pk_tryWithin_53 : decode b_Pk_tryWithin 53 = .ok (.aload_n 0, 1) := by decide +kernel
theorem d_Pk_tryWithin_54 : decode b_Pk_tryWithin 54 = .ok (.getfield 21, 3) := by decide +kernel
theorem d_Pk_tryWithin_57 : decode b_Pk_tryWithin 57 = .ok (.iload 5, 2) := by decide +kernel
theorem d_Pk_tryWithin_59 : decode b_Pk_tryWithin 59 = .ok (.iload 6, 2) := by decide +kernel
theorem d_Pk_tryWithin_61 : decode b_Pk_tryWithin 61 = .ok (.iastore, 1) := by decide +kernel
theorem d_Pk_tryWithin_62 : decode b_Pk_tryWithin 62 = .ok (.iload 4, 2) := by decide +kernel
theorem d_Pk_tryWithin_64 : decode b_Pk_tryWithin 64 = .ok (.aload_n 1, 1) := by decide +kernel
theorem d_Pk_tryWithin_65 : decode b_Pk_tryWithin 65 = .ok (.iload 5, 2) := by decide +kernel
theorem d_Pk_tryWithin_67 : decode b_Pk_tryWithin 67 = .ok (.iload 6, 2) := by decide +kernel
theorem d_Pk_tryWithin_69 : decode b_Pk_tryWithin 69 = .ok (.iconst 0, 1) := by decide +kernel
theorem d_Pk_tryWithin_70 : decode b_Pk_tryWithin 70 = .ok (.invokevirtual 108, 3) := by decide +kernel
theorem d_Pk_tryWithin_73 : decode b_Pk_tryWithin 73 = .ok (.aload_n 0, 1) := by decide +kernel
theorem d_Pk_tryWithin_74 : decode b_Pk_tryWithin 74 = .ok (.getfield 61, 3) := by decide +kernel
theorem d_Pk_tryWithin_77 : decode b_Pk_tryWithin 77 = .ok (.iadd, 1) := by decide +kernel
theorem d_Pk_tryWithin_78 : decode b_Pk_tryWithin 78 = .ok (.iadd, 1) := by decide +kernel
theorem d_Pk_tryWithin_79 : decode b_Pk_tryWithin 79 = .ok (.istore 4, 2) := by decide +kernel
theorem d_Pk_tryWithin_81 : decode b_Pk_tryWithin 81 = .ok (.iinc 5 1, 3) := by decide +kernel
theorem d_Pk_tryWithin_84 : decode b_Pk_tryWithin 84 = .ok (.goto (-75), 3) := by decide +kernel
theorem d_Pk_tryWithin_87 : decode b_Pk_tryWithin 87 = .ok (.iload 4, 2) := by decide +kernel
theorem d_Pk_tryWithin_89 : decode b_Pk_tryWithin 89 = .ok (.i2l, 1) := by decide +kernel
theorem d_Pk_tryWithin_90 : decode b_Pk_tryWithin 90 = .ok (.iload_n 2, 1) := by decide +kernel
theorem d_Pk_tryWithin_91 : decode b_Pk_tryWithin 91 = .ok (.iconst 2, 1) := by decide +kernel
theorem d_Pk_tryWithin_92 : decode b_Pk_tryWithin 92 = .ok (.aload_n 0, 1) := by decide +kernel
theorem d_Pk_tryWithin_93 : decode b_Pk_tryWithin 93 = .ok (.getfield 61, 3) := by decide +kernel
theorem d_Pk_tryWithin_96 : decode b_Pk_tryWithin 96 = .ok (.imul, 1) := by decide +kernel
theorem d_Pk_tryWithin_97 : decode b_Pk_tryWithin 97 = .ok (.iadd, 1) := by decide +kernel
theorem d_Pk_tryWithin_98 : decode b_Pk_tryWithin 98 = .ok (.i2l, 1) := by decide +kernel
theorem d_Pk_tryWithin_99 : decode b_Pk_tryWithin 99 = .ok (.lmul, 1) := by decide +kernel
theorem d_Pk_tryWithin_100 : decode b_Pk_tryWithin 100 = .ok (.iload_n 3, 1) := by decide +kernel
theorem d_Pk_tryWithin_101 : decode b_Pk_tryWithin 101 = .ok (.iconst 2, 1) := by decide +kernel
theorem d_Pk_tryWithin_102 : decode b_Pk_tryWithin 102 = .ok (.aload_n 0, 1) := by decide +kernel
theorem d_Pk_tryWithin_103 : decode b_Pk_tryWithin 103 = .ok (.getfield 61, 3) := by decide +kernel
theorem d_Pk_tryWithin_106 : decode b_Pk_tryWithin 106 = .ok (.imul, 1) := by decide +kernel
theorem d_Pk_tryWithin_107 : decode b_Pk_tryWithin 107 = .ok (.iadd, 1) := by decide +kernel
theorem d_Pk_tryWithin_108 : decode b_Pk_tryWithin 108 = .ok (.i2l, 1) := by decide +kernel
theorem d_Pk_tryWithin_109 : decode b_Pk_tryWithin 109 = .ok (.lmul, 1) := by decide +kernel
theorem d_Pk_tryWithin_110 : decode b_Pk_tryWithin 110 = .ok (.lstore 5, 2) := by decide +kernel
theorem d_Pk_tryWithin_112 : decode b_Pk_tryWithin 112 = .ok (.lload 5, 2) := by decide +kernel
theorem d_Pk_tryWithin_114 : decode b_Pk_tryWithin 114 = .ok (.aload_n 0, 1) := by decide +kernel
theorem d_Pk_tryWithin_115 : decode b_Pk_tryWithin 115 = .ok (.getfield 95, 3) := by decide +kernel
theorem d_Pk_tryWithin_118 : decode b_Pk_tryWithin 118 = .ok (.lcmp, 1) := by decide +kernel
theorem d_Pk_tryWithin_119 : decode b_Pk_tryWithin 119 = .ok (.ifCond .lt 20, 3) := by decide +kernel
theorem d_Pk_tryWithin_122 : decode b_Pk_tryWithin 122 = .ok (.lload 5, 2) := by decide +kernel
theorem d_Pk_tryWithin_124 : decode b_Pk_tryWithin 124 = .ok (.aload_n 0, 1) := by decide +kernel
theorem d_Pk_tryWithin_125 : decode b_Pk_tryWithin 125 = .ok (.getfield 95, 3) := by decide +kernel
theorem d_Pk_tryWithin_128 : decode b_Pk_tryWithin 128 = .ok (.lcmp, 1) := by decide +kernel
theorem d_Pk_tryWithin_129 : decode b_Pk_tryWithin 129 = .ok (.ifCond .ne 38, 3) := by decide +kernel
theorem d_Pk_tryWithin_132 : decode b_Pk_tryWithin 132 = .ok (.aload_n 0, 1) := by decide +kernel
theorem d_Pk_tryWithin_133 : decode b_Pk_tryWithin 133 = .ok (.invokevirtual 111, 3) := by decide +kernel
theorem d_Pk_tryWithin_136 : decode b_Pk_tryWithin 136 = .ok (.ifCond .eq 31, 3) := by decide +kernel
theorem d_Pk_tryWithin_139 : decode b_Pk_tryWithin 139 = .ok (.aload_n 0, 1) := by decide +kernel
theorem d_Pk_tryWithin_140 : decode b_Pk_tryWithin 140 = .ok (.lload 5, 2) := by decide +kernel
theorem d_Pk_tryWithin_142 : decode b_Pk_tryWithin 142 = .ok (.putfield 95, 3) := by decide +kernel
theorem d_Pk_tryWithin_145 : decode b_Pk_tryWithin 145 = .ok (.aload_n 0, 1) := by decide +kernel
theorem d_Pk_tryWithin_146 : decode b_Pk_tryWithin 146 = .ok (.iload 4, 2) := by decide +kernel
theorem d_Pk_tryWithin_148 : decode b_Pk_tryWithin 148 = .ok (.iload_n 2, 1) := by decide +kernel
theorem d_Pk_tryWithin_149 : decode b_Pk_tryWithin 149 = .ok (.iconst 2, 1) := by decide +kernel
theorem d_Pk_tryWithin_150 : decode b_Pk_tryWithin 150 = .ok (.aload_n 0, 1) := by decide +kernel
theorem d_Pk_tryWithin_151 : decode b_Pk_tryWithin 151 = .ok (.getfield 61, 3) := by decide +kernel
theorem d_Pk_tryWithin_154 : decode b_Pk_tryWithin 154 = .ok (.imul, 1) := by decide +kernel
theorem d_Pk_tryWithin_155 : decode b_Pk_tryWithin 155 = .ok (.iadd, 1) := by decide +kernel
end
section
theorem d_Pk_tryWithin_156 : decode b_Pk_tryWithin 156 = .ok (.iload_n 3, 1) := by decide +kernel
theorem d_Pk_tryWithin_157 : decode b_Pk_tryWithin 157 = .ok (.iconst 2, 1) := by decide +kernel
theorem d_Pk_tryWithin_158 : decode b_Pk_tryWithin 158 = .ok (.aload_n 0, 1) := by decide +kernel
theorem d_Pk_tryWithin_159 : decode b_Pk_tryWithin 159 = .ok (.getfield 61, 3) := by decide +kernel
theorem d_Pk_tryWithin_162 : decode b_Pk_tryWithin 162 = .ok (.imul, 1) := by decide +kernel
theorem d_Pk_tryWithin_163 : decode b_Pk_tryWithin 163 = .ok (.iadd, 1) := by decide +kernel
theorem d_Pk_tryWithin_164 : decode b_Pk_tryWithin 164 = .ok (.invokevirtual 115, 3) := by decide +kernel
theorem d_Pk_tryWithin_167 : decode b_Pk_tryWithin 167 = .ok (.return_, 1) := by decide +kernel
theorem d_Go_shortestWay_0 : decode b_Go_shortestWay 0 = .ok (.iconst (-1), 1) := by decide +kernel
theorem d_Go_shortestWay_1 : decode b_Go_shortestWay 1 = .ok (.istore 4, 2) := by decide +kernel
theorem d_Go_shortestWay_3 : decode b_Go_shortestWay 3 = .ok (.sipush 201, 3) := by decide +kernel
theorem d_Go_shortestWay_6 : decode b_Go_shortestWay 6 = .ok (.istore 5, 2) := by decide +kernel
theorem d_Go_shortestWay_8 : decode b_Go_shortestWay 8 = .ok (.iconst 0, 1) := by decide +kernel
theorem d_Go_shortestWay_9 : decode b_Go_shortestWay 9 = .ok (.istore 6, 2) := by decide +kernel
theorem d_Go_shortestWay_11 : decode b_Go_shortestWay 11 = .ok (.iload 6, 2) := by decide +kernel
theorem d_Go_shortestWay_13 : decode b_Go_shortestWay 13 = .ok (.bipush 6, 2) := by decide +kernel
theorem d_Go_shortestWay_15 : decode b_Go_shortestWay 15 = .ok (.if_icmp .ge 80, 3) := by decide +kernel
theorem d_Go_shortestWay_18 : decode b_Go_shortestWay 18 = .ok (.aload_n 0, 1) := by decide +kernel
theorem d_Go_shortestWay_19 : decode b_Go_shortestWay 19 = .ok (.iload_n 1, 1) := by decide +kernel
theorem d_Go_shortestWay_20 : decode b_Go_shortestWay 20 = .ok (.iload 6, 2) := by decide +kernel
theorem d_Go_shortestWay_22 : decode b_Go_shortestWay 22 = .ok (.iconst 0, 1) := by decide +kernel
theorem d_Go_shortestWay_23 : decode b_Go_shortestWay 23 = .ok (.invokevirtual 46, 3) := by decide +kernel
theorem d_Go_shortestWay_26 : decode b_Go_shortestWay 26 = .ok (.istore 7, 2) := by decide +kernel
theorem d_Go_shortestWay_28 : decode b_Go_shortestWay 28 = .ok (.aload_n 0, 1) := by decide +kernel
theorem d_Go_shortestWay_29 : decode b_Go_shortestWay 29 = .ok (.iload_n 1, 1) := by decide +kernel
theorem d_Go_shortestWay_30 : decode b_Go_shortestWay 30 = .ok (.iload 6, 2) := by decide +kernel
theorem d_Go_shortestWay_32 : decode b_Go_shortestWay 32 = .ok (.iconst 1, 1) := by decide +kernel
theorem d_Go_shortestWay_33 : decode b_Go_shortestWay 33 = .ok (.invokevirtual 46, 3) := by decide +kernel
theorem d_Go_shortestWay_36 : decode b_Go_shortestWay 36 = .ok (.iload_n 2, 1) := by decide +kernel
theorem d_Go_shortestWay_37 : decode b_Go_shortestWay 37 = .ok (.if_icmp .gt 19, 3) := by decide +kernel
theorem d_Go_shortestWay_40 : decode b_Go_shortestWay 40 = .ok (.aload_n 0, 1) := by decide +kernel
theorem d_Go_shortestWay_41 : decode b_Go_shortestWay 41 = .ok (.iload_n 1, 1) := by decide +kernel
theorem d_Go_shortestWay_42 : decode b_Go_shortestWay 42 = .ok (.iload 6, 2) := by decide +kernel
theorem d_Go_shortestWay_44 : decode b_Go_shortestWay 44 = .ok (.iconst 2, 1) := by decide +kernel
theorem d_Go_shortestWay_45 : decode b_Go_shortestWay 45 = .ok (.invokevirtual 46, 3) := by decide +kernel
theorem d_Go_shortestWay_48 : decode b_Go_shortestWay 48 = .ok (.iload_n 3, 1) := by decide +kernel
theorem d_Go_shortestWay_49 : decode b_Go_shortestWay 49 = .ok (.if_icmp .gt 7, 3) := by decide +kernel
theorem d_Go_shortestWay_52 : decode b_Go_shortestWay 52 = .ok (.iconst 1, 1) := by decide +kernel
theorem d_Go_shortestWay_53 : decode b_Go_shortestWay 53 = .ok (.goto 4, 3) := by decide +kernel
theorem d_Go_shortestWay_56 : decode b_Go_shortestWay 56 = .ok (.iconst 0, 1) := by decide +kernel
theorem d_Go_shortestWay_57 : decode b_Go_shortestWay 57 = .ok (.istore 8, 2) := by decide +kernel
theorem d_Go_shortestWay_59 : decode b_Go_shortestWay 59 = .ok (.iload 8, 2) := by decide +kernel
theorem d_Go_shortestWay_61 : decode b_Go_shortestWay 61 = .ok (.ifCond .eq 28, 3) := by decide +kernel
theorem d_Go_shortestWay_64 : decode b_Go_shortestWay 64 = .ok (.iload 7, 2) := by decide +kernel
theorem d_Go_shortestWay_66 : decode b_Go_shortestWay 66 = .ok (.iload 5, 2) := by decide +kernel
theorem d_Go_shortestWay_68 : decode b_Go_shortestWay 68 = .ok (.if_icmp .ge 21, 3) := by decide +kernel
theorem d_Go_shortestWay_71 : decode b_Go_shortestWay 71 = .ok (.aload_n 0, 1) := by decide +kernel
theorem d_Go_shortestWay_72 : decode b_Go_shortestWay 72 = .ok (.iload_n 1, 1) := by decide +kernel
theorem d_Go_shortestWay_73 : decode b_Go_shortestWay 73 = .ok (.iload 6, 2) := by decide +kernel
theorem d_Go_shortestWay_75 : decode b_Go_shortestWay 75 = .ok (.invokevirtual 50, 3) := by decide +kernel
theorem d_Go_shortestWay_78 : decode b_Go_shortestWay 78 = .ok (.ifCond .eq 11, 3) := by decide +kernel
theorem d_Go_shortestWay_81 : decode b_Go_shortestWay 81 = .ok (.iload 6, 2) := by decide +kernel
theorem d_Go_shortestWay_83 : decode b_Go_shortestWay 83 = .ok (.istore 4, 2) := by decide +kernel
theorem d_Go_shortestWay_85 : decode b_Go_shortestWay 85 = .ok (.iload 7, 2) := by decide +kernel
theorem d_Go_shortestWay_87 : decode b_Go_shortestWay 87 = .ok (.istore 5, 2) := by decide +kernel
theorem d_Go_shortestWay_89 : decode b_Go_shortestWay 89 = .ok (.iinc 6 1, 3) := by decide +kernel
theorem d_Go_shortestWay_92 : decode b_Go_shortestWay 92 = .ok (.goto (-81), 3) := by decide +kernel
theorem d_Go_shortestWay_95 : decode b_Go_shortestWay 95 = .ok (.iload 4, 2) := by decide +kernel
theorem d_Go_shortestWay_97 : decode b_Go_shortestWay 97 = .ok (.ireturn, 1) := by decide +kernel
theorem d_Go_sizeOf_0 : decode b_Go_sizeOf 0 = .ok (.aload_n 0, 1) := by decide +kernel
theorem d_Go_sizeOf_1 : decode b_Go_sizeOf 1 = .ok (.getfield 9, 3) := by decide +kernel
theorem d_Go_sizeOf_4 : decode b_Go_sizeOf 4 = .ok (.iload_n 1, 1) := by decide +kernel
theorem d_Go_sizeOf_5 : decode b_Go_sizeOf 5 = .ok (.iconst 3, 1) := by decide +kernel
theorem d_Go_sizeOf_6 : decode b_Go_sizeOf 6 = .ok (.imul, 1) := by decide +kernel
theorem d_Go_sizeOf_7 : decode b_Go_sizeOf 7 = .ok (.getstatic 43, 3) := by decide +kernel
theorem d_Go_sizeOf_10 : decode b_Go_sizeOf 10 = .ok (.iload_n 2, 1) := by decide +kernel
theorem d_Go_sizeOf_11 : decode b_Go_sizeOf 11 = .ok (.iconst 3, 1) := by decide +kernel
theorem d_Go_sizeOf_12 : decode b_Go_sizeOf 12 = .ok (.imul, 1) := by decide +kernel
theorem d_Go_sizeOf_13 : decode b_Go_sizeOf 13 = .ok (.iload_n 3, 1) := by decide +kernel
theorem d_Go_sizeOf_14 : decode b_Go_sizeOf 14 = .ok (.iadd, 1) := by decide +kernel
theorem d_Go_sizeOf_15 : decode b_Go_sizeOf 15 = .ok (.iaload, 1) := by decide +kernel
theorem d_Go_sizeOf_16 : decode b_Go_sizeOf 16 = .ok (.iadd, 1) := by decide +kernel
theorem d_Go_sizeOf_17 : decode b_Go_sizeOf 17 = .ok (.iaload, 1) := by decide +kernel
theorem d_Go_sizeOf_18 : decode b_Go_sizeOf 18 = .ok (.ireturn, 1) := by decide +kernel
theorem d_Go_mayStand_0 : decode b_Go_mayStand 0 = .ok (.aload_n 0, 1) := by decide +kernel
theorem d_Go_mayStand_1 : decode b_Go_mayStand 1 = .ok (.getfield 18, 3) := by decide +kernel
theorem d_Go_mayStand_4 : decode b_Go_mayStand 4 = .ok (.iload_n 1, 1) := by decide +kernel
theorem d_Go_mayStand_5 : decode b_Go_mayStand 5 = .ok (.iaload, 1) := by decide +kernel
theorem d_Go_mayStand_6 : decode b_Go_mayStand 6 = .ok (.iload_n 2, 1) := by decide +kernel
theorem d_Go_mayStand_7 : decode b_Go_mayStand 7 = .ok (.ishr, 1) := by decide +kernel
theorem d_Go_mayStand_8 : decode b_Go_mayStand 8 = .ok (.iconst 1, 1) := by decide +kernel
theorem d_Go_mayStand_9 : decode b_Go_mayStand 9 = .ok (.iand, 1) := by decide +kernel
theorem d_Go_mayStand_10 : decode b_Go_mayStand 10 = .ok (.ifCond .ne 7, 3) := by decide +kernel
theorem d_Go_mayStand_13 : decode b_Go_mayStand 13 = .ok (.iconst 1, 1) := by decide +kernel
theorem d_Go_mayStand_14 : decode b_Go_mayStand 14 = .ok (.goto 4, 3) := by decide +kernel
theorem d_Go_mayStand_17 : decode b_Go_mayStand 17 = .ok (.iconst 0, 1) := by decide +kernel
theorem d_Go_mayStand_18 : decode b_Go_mayStand 18 = .ok (.ireturn, 1) := by decide +kernel
theorem d_Pk_triedIsLower_0 : decode b_Pk_triedIsLower 0 = .ok (.iconst 0, 1) := by decide +kernel
theorem d_Pk_triedIsLower_1 : decode b_Pk_triedIsLower 1 = .ok (.istore_n 1, 1) := by decide +kernel
theorem d_Pk_triedIsLower_2 : decode b_Pk_triedIsLower 2 = .ok (.iload_n 1, 1) := by decide +kernel
theorem d_Pk_triedIsLower_3 : decode b_Pk_triedIsLower 3 = .ok (.bipush 6, 2) := by decide +kernel
theorem d_Pk_triedIsLower_5 : decode b_Pk_triedIsLower 5 = .ok (.if_icmp .ge 45, 3) := by decide +kernel
theorem d_Pk_triedIsLower_8 : decode b_Pk_triedIsLower 8 = .ok (.aload_n 0, 1) := by decide +kernel
theorem d_Pk_triedIsLower_9 : decode b_Pk_triedIsLower 9 = .ok (.getfield 21, 3) := by decide +kernel
theorem d_Pk_triedIsLower_12 : decode b_Pk_triedIsLower 12 = .ok (.iload_n 1, 1) := by decide +kernel
theorem d_Pk_triedIsLower_13 : decode b_Pk_triedIsLower 13 = .ok (.iaload, 1) := by decide +kernel
theorem d_Pk_triedIsLower_14 : decode b_Pk_triedIsLower 14 = .ok (.aload_n 0, 1) := by decide +kernel
theorem d_Pk_triedIsLower_15 : decode b_Pk_triedIsLower 15 = .ok (.getfield 15, 3) := by decide +kernel
theorem d_Pk_triedIsLower_18 : decode b_Pk_triedIsLower 18 = .ok (.iload_n 1, 1) := by decide +kernel
theorem d_Pk_triedIsLower_19 : decode b_Pk_triedIsLower 19 = .ok (.iaload, 1) := by decide +kernel
theorem d_Pk_triedIsLower_20 : decode b_Pk_triedIsLower 20 = .ok (.if_icmp .eq 24, 3) := by decide +kernel
theorem d_Pk_triedIsLower_23 : decode b_Pk_triedIsLower 23 = .ok (.aload_n 0, 1) := by decide +kernel
theorem d_Pk_triedIsLower_24 : decode b_Pk_triedIsLower 24 = .ok (.getfield 21, 3) := by decide +kernel
theorem d_Pk_triedIsLower_27 : decode b_Pk_triedIsLower 27 = .ok (.iload_n 1, 1) := by decide +kernel
theorem d_Pk_triedIsLower_28 : decode b_Pk_triedIsLower 28 = .ok (.iaload, 1) := by decide +kernel
theorem d_Pk_triedIsLower_29 : decode b_Pk_triedIsLower 29 = .ok (.aload_n 0, 1) := by decide +kernel
theorem d_Pk_triedIsLower_30 : decode b_Pk_triedIsLower 30 = .ok (.getfield 15, 3) := by decide +kernel
theorem d_Pk_triedIsLower_33 : decode b_Pk_triedIsLower 33 = .ok (.iload_n 1, 1) := by decide +kernel
theorem d_Pk_triedIsLower_34 : decode b_Pk_triedIsLower 34 = .ok (.iaload, 1) := by decide +kernel
theorem d_Pk_triedIsLower_35 : decode b_Pk_triedIsLower 35 = .ok (.if_icmp .ge 7, 3) := by decide +kernel
theorem d_Pk_triedIsLower_38 : decode b_Pk_triedIsLower 38 = .ok (.iconst 1, 1) := by decide +kernel
theorem d_Pk_triedIsLower_39 : decode b_Pk_triedIsLower 39 = .ok (.goto 4, 3) := by decide +kernel
theorem d_Pk_triedIsLower_42 : decode b_Pk_triedIsLower 42 = .ok (.iconst 0, 1) := by decide +kernel
theorem d_Pk_triedIsLower_43 : decode b_Pk_triedIsLower 43 = .ok (.ireturn, 1) := by decide +kernel
theorem d_Pk_triedIsLower_44 : decode b_Pk_triedIsLower 44 = .ok (.iinc 1 1, 3) := by decide +kernel
theorem d_Pk_triedIsLower_47 : decode b_Pk_triedIsLower 47 = .ok (.goto (-45), 3) := by decide +kernel
theorem d_Pk_triedIsLower_50 : decode b_Pk_triedIsLower 50 = .ok (.iconst 0, 1) := by decide +kernel
theorem d_Pk_triedIsLower_51 : decode b_Pk_triedIsLower 51 = .ok (.ireturn, 1) := by decide +kernel
theorem d_Pk_keep_0 : decode b_Pk_keep 0 = .ok (.aload_n 0, 1) := by decide +kernel
theorem d_Pk_keep_1 : decode b_Pk_keep 1 = .ok (.getfield 9, 3) := by decide +kernel
theorem d_Pk_keep_4 : decode b_Pk_keep 4 = .ok (.iconst 0, 1) := by decide +kernel
theorem d_Pk_keep_5 : decode b_Pk_keep 5 = .ok (.iload_n 1, 1) := by decide +kernel
theorem d_Pk_keep_6 : decode b_Pk_keep 6 = .ok (.iastore, 1) := by decide +kernel
theorem d_Pk_keep_7 : decode b_Pk_keep 7 = .ok (.aload_n 0, 1) := by decide +kernel
theorem d_Pk_keep_8 : decode b_Pk_keep 8 = .ok (.getfield 9, 3) := by decide +kernel
theorem d_Pk_keep_11 : decode b_Pk_keep 11 = .ok (.iconst 1, 1) := by decide +kernel
theorem d_Pk_keep_12 : decode b_Pk_keep 12 = .ok (.iload_n 2, 1) := by decide +kernel
theorem d_Pk_keep_13 : decode b_Pk_keep 13 = .ok (.iastore, 1) := by decide +kernel
theorem d_Pk_keep_14 : decode b_Pk_keep 14 = .ok (.aload_n 0, 1) := by decide +kernel
theorem d_Pk_keep_15 : decode b_Pk_keep 15 = .ok (.getfield 9, 3) := by decide +kernel
theorem d_Pk_keep_18 : decode b_Pk_keep 18 = .ok (.iconst 2, 1) := by decide +kernel
theorem d_Pk_keep_19 : decode b_Pk_keep 19 = .ok (.iload_n 3, 1) := by decide +kernel
theorem d_Pk_keep_20 : decode b_Pk_keep 20 = .ok (.iastore, 1) := by decide +kernel
theorem d_Pk_keep_21 : decode b_Pk_keep 21 = .ok (.aload_n 0, 1) := by decide +kernel
theorem d_Pk_keep_22 : decode b_Pk_keep 22 = .ok (.getfield 21, 3) := by decide +kernel
theorem d_Pk_keep_25 : decode b_Pk_keep 25 = .ok (.iconst 0, 1) := by decide +kernel
theorem d_Pk_keep_26 : decode b_Pk_keep 26 = .ok (.aload_n 0, 1) := by decide +kernel
theorem d_Pk_keep_27 : decode b_Pk_keep 27 = .ok (.getfield 15, 3) := by decide +kernel
theorem d_Pk_keep_30 : decode b_Pk_keep 30 = .ok (.iconst 0, 1) := by decide +kernel
theorem d_Pk_keep_31 : decode b_Pk_keep 31 = .ok (.bipush 6, 2) := by decide +kernel
theorem d_Pk_keep_33 : decode b_Pk_keep 33 = .ok (.invokestatic 118, 3) := by decide +kernel
theorem d_Pk_keep_36 : decode b_Pk_keep 36 = .ok (.return_, 1) := by decide +kernel
theorem d_Pk_placeInRow_0 : decode b_Pk_placeInRow 0 = .ok (.aload_n 0, 1) := by decide +kernel
theorem d_Pk_placeInRow_1 : decode b_Pk_placeInRow 1 = .ok (.getfield 61, 3) := by decide +kernel
theorem d_Pk_placeInRow_4 : decode b_Pk_placeInRow 4 = .ok (.istore_n 2, 1) := by decide +kernel
theorem d_Pk_placeInRow_5 : decode b_Pk_placeInRow 5 = .ok (.iconst 0, 1) := by decide +kernel
theorem d_Pk_placeInRow_6 : decode b_Pk_placeInRow 6 = .ok (.istore_n 3, 1) := by decide +kernel
theorem d_Pk_placeInRow_7 : decode b_Pk_placeInRow 7 = .ok (.iload_n 3, 1) := by decide +kernel
theorem d_Pk_placeInRow_8 : decode b_Pk_placeInRow 8 = .ok (.bipush 6, 2) := by decide +kernel
theorem d_Pk_placeInRow_10 : decode b_Pk_placeInRow 10 = .ok (.if_icmp .ge 56, 3) := by decide +kernel
theorem d_Pk_placeInRow_13 : decode b_Pk_placeInRow 13 = .ok (.aload_n 0, 1) := by decide +kernel
theorem d_Pk_placeInRow_14 : decode b_Pk_placeInRow 14 = .ok (.getfield 15, 3) := by decide +kernel
theorem d_Pk_placeInRow_17 : decode b_Pk_placeInRow 17 = .ok (.iload_n 3, 1) := by decide +kernel
theorem d_Pk_placeInRow_18 : decode b_Pk_placeInRow 18 = .ok (.iaload, 1) := by decide +kernel
theorem d_Pk_placeInRow_19 : decode b_Pk_placeInRow 19 = .ok (.iconst (-1), 1) := by decide +kernel
theorem d_Pk_placeInRow_20 : decode b_Pk_placeInRow 20 = .ok (.if_icmp .ne 13, 3) := by decide +kernel
theorem d_Pk_placeInRow_23 : decode b_Pk_placeInRow 23 = .ok (.aload_n 0, 1) := by decide +kernel
theorem d_Pk_placeInRow_24 : decode b_Pk_placeInRow 24 = .ok (.getfield 18, 3) := by decide +kernel
theorem d_Pk_placeInRow_27 : decode b_Pk_placeInRow 27 = .ok (.iload_n 3, 1) := by decide +kernel
theorem d_Pk_placeInRow_28 : decode b_Pk_placeInRow 28 = .ok (.iconst (-1), 1) := by decide +kernel
theorem d_Pk_placeInRow_29 : decode b_Pk_placeInRow 29 = .ok (.iastore, 1) := by decide +kernel
theorem d_Pk_placeInRow_30 : decode b_Pk_placeInRow 30 = .ok (.goto 30, 3) := by decide +kernel
theorem d_Pk_placeInRow_33 : decode b_Pk_placeInRow 33 = .ok (.aload_n 0, 1) := by decide +kernel
theorem d_Pk_placeInRow_34 : decode b_Pk_placeInRow 34 = .ok (.getfield 18, 3) := by decide +kernel
theorem d_Pk_placeInRow_37 : decode b_Pk_placeInRow 37 = .ok (.iload_n 3, 1) := by decide +kernel
theorem d_Pk_placeInRow_38 : decode b_Pk_placeInRow 38 = .ok (.iload_n 2, 1) := by decide +kernel
theorem d_Pk_placeInRow_39 : decode b_Pk_placeInRow 39 = .ok (.iastore, 1) := by decide +kernel
theorem d_Pk_placeInRow_40 : decode b_Pk_placeInRow 40 = .ok (.iload_n 2, 1) := by decide +kernel
theorem d_Pk_placeInRow_41 : decode b_Pk_placeInRow 41 = .ok (.aload_n 1, 1) := by decide +kernel
theorem d_Pk_placeInRow_42 : decode b_Pk_placeInRow 42 = .ok (.iload_n 3, 1) := by decide +kernel
theorem d_Pk_placeInRow_43 : decode b_Pk_placeInRow 43 = .ok (.aload_n 0, 1) := by decide +kernel
theorem d_Pk_placeInRow_44 : decode b_Pk_placeInRow 44 = .ok (.getfield 15, 3) := by decide +kernel
theorem d_Pk_placeInRow_47 : decode b_Pk_placeInRow 47 = .ok (.iload_n 3, 1) := by decide +kernel
theorem d_Pk_placeInRow_48 : decode b_Pk_placeInRow 48 = .ok (.iaload, 1) := by decide +kernel
theorem d_Pk_placeInRow_49 : decode b_Pk_placeInRow 49 = .ok (.iconst 0, 1) := by decide +kernel
theorem d_Pk_placeInRow_50 : decode b_Pk_placeInRow 50 = .ok (.invokevirtual 108, 3) := by decide +kernel
theorem d_Pk_placeInRow_53 : decode b_Pk_placeInRow 53 = .ok (.aload_n 0, 1) := by decide +kernel
theorem d_Pk_placeInRow_54 : decode b_Pk_placeInRow 54 = .ok (.getfield 61, 3) := by decide +kernel
theorem d_Pk_placeInRow_57 : decode b_Pk_placeInRow 57 = .ok (.iadd, 1) := by decide +kernel
theorem d_Pk_placeInRow_58 : decode b_Pk_placeInRow 58 = .ok (.iadd, 1) := by decide +kernel
theorem d_Pk_placeInRow_59 : decode b_Pk_placeInRow 59 = .ok (.istore_n 2, 1) := by decide +kernel
theorem d_Pk_placeInRow_60 : decode b_Pk_placeInRow 60 = .ok (.iinc 3 1, 3) := by decide +kernel
theorem d_Pk_placeInRow_63 : decode b_Pk_placeInRow 63 = .ok (.goto (-56), 3) := by decide +kernel
theorem d_Pk_placeInRow_66 : decode b_Pk_placeInRow 66 = .ok (.return_, 1) := by decide +kernel
theorem d_In_bitCount_0 : decode b_In_bitCount 0 = .ok (.iload_n 0, 1) := by decide +kernel
theorem d_In_bitCount_1 : decode b_In_bitCount 1 = .ok (.iload_n 0, 1) := by decide +kernel
theorem d_In_bitCount_2 : decode b_In_bitCount 2 = .ok (.iconst 1, 1) := by decide +kernel
theorem d_In_bitCount_3 : decode b_In_bitCount 3 = .ok (.iushr, 1) := by decide +kernel
theorem d_In_bitCount_4 : decode b_In_bitCount 4 = .ok (.ldc_w 265, 3) := by decide +kernel
theorem d_In_bitCount_7 : decode b_In_bitCount 7 = .ok (.iand, 1) := by decide +kernel
theorem d_In_bitCount_8 : decode b_In_bitCount 8 = .ok (.isub, 1) := by decide +kernel
theorem d_In_bitCount_9 : decode b_In_bitCount 9 = .ok (.istore_n 0, 1) := by decide +kernel
theorem d_In_bitCount_10 : decode b_In_bitCount 10 = .ok (.iload_n 0, 1) := by decide +kernel
theorem d_In_bitCount_11 : decode b_In_bitCount 11 = .ok (.ldc_w 266, 3) := by decide +kernel
theorem d_In_bitCount_14 : decode b_In_bitCount 14 = .ok (.iand, 1) := by decide +kernel
theorem d_In_bitCount_15 : decode b_In_bitCount 15 = .ok (.iload_n 0, 1) := by decide +kernel
theorem d_In_bitCount_16 : decode b_In_bitCount 16 = .ok (.iconst 2, 1) := by decide +kernel
theorem d_In_bitCount_17 : decode b_In_bitCount 17 = .ok (.iushr, 1) := by decide +kernel
theorem d_In_bitCount_18 : decode b_In_bitCount 18 = .ok (.ldc_w 266, 3) := by decide +kernel
theorem d_In_bitCount_21 : decode b_In_bitCount 21 = .ok (.iand, 1) := by decide +kernel
theorem d_In_bitCount_22 : decode b_In_bitCount 22 = .ok (.iadd, 1) := by decide +kernel
theorem d_In_bitCount_23 : decode b_In_bitCount 23 = .ok (.istore_n 0, 1) := by decide +kernel
theorem d_In_bitCount_24 : decode b_In_bitCount 24 = .ok (.iload_n 0, 1) := by decide +kernel
theorem d_In_bitCount_25 : decode b_In_bitCount 25 = .ok (.iload_n 0, 1) := by decide +kernel
theorem d_In_bitCount_26 : decode b_In_bitCount 26 = .ok (.iconst 4, 1) := by decide +kernel
theorem d_In_bitCount_27 : decode b_In_bitCount 27 = .ok (.iushr, 1) := by decide +kernel
theorem d_In_bitCount_28 : decode b_In_bitCount 28 = .ok (.iadd, 1) := by decide +kernel
theorem d_In_bitCount_29 : decode b_In_bitCount 29 = .ok (.ldc_w 267, 3) := by decide +kernel
theorem d_In_bitCount_32 : decode b_In_bitCount 32 = .ok (.iand, 1) := by decide +kernel
theorem d_In_bitCount_33 : decode b_In_bitCount 33 = .ok (.istore_n 0, 1) := by decide +kernel
theorem d_In_bitCount_34 : decode b_In_bitCount 34 = .ok (.iload_n 0, 1) := by decide +kernel
theorem d_In_bitCount_35 : decode b_In_bitCount 35 = .ok (.iload_n 0, 1) := by decide +kernel
theorem d_In_bitCount_36 : decode b_In_bitCount 36 = .ok (.bipush 8, 2) := by decide +kernel
theorem d_In_bitCount_38 : decode b_In_bitCount 38 = .ok (.iushr, 1) := by decide +kernel
theorem d_In_bitCount_39 : decode b_In_bitCount 39 = .ok (.iadd, 1) := by decide +kernel
theorem d_In_bitCount_40 : decode b_In_bitCount 40 = .ok (.istore_n 0, 1) := by decide +kernel
theorem d_In_bitCount_41 : decode b_In_bitCount 41 = .ok (.iload_n 0, 1) := by decide +kernel
theorem d_In_bitCount_42 : decode b_In_bitCount 42 = .ok (.iload_n 0, 1) := by decide +kernel
theorem d_In_bitCount_43 : decode b_In_bitCount 43 = .ok (.bipush 16, 2) := by decide +kernel
theorem d_In_bitCount_45 : decode b_In_bitCount 45 = .ok (.iushr, 1) := by decide +kernel
theorem d_In_bitCount_46 : decode b_In_bitCount 46 = .ok (.iadd, 1) := by decide +kernel
theorem d_In_bitCount_47 : decode b_In_bitCount 47 = .ok (.istore_n 0, 1) := by decide +kernel
theorem d_In_bitCount_48 : decode b_In_bitCount 48 = .ok (.iload_n 0, 1) := by decide +kernel
theorem d_In_bitCount_49 : decode b_In_bitCount 49 = .ok (.bipush 63, 2) := by decide +kernel
theorem d_In_bitCount_51 : decode b_In_bitCount 51 = .ok (.iand, 1) := by decide +kernel
theorem d_In_bitCount_52 : decode b_In_bitCount 52 = .ok (.ireturn, 1) := by decide +kernel
theorem d_La_size_0 : decode b_La_size 0 = .ok (.aload_n 2, 1) := by decide +kernel
theorem d_La_size_1 : decode b_La_size 1 = .ok (.iconst 0, 1) := by decide +kernel
theorem d_La_size_2 : decode b_La_size 2 = .ok (.aload_n 0, 1) := by decide +kernel
theorem d_La_size_3 : decode b_La_size 3 = .ok (.iload_n 1, 1) := by decide +kernel
theorem d_La_size_4 : decode b_La_size 4 = .ok (.invokevirtual 40, 3) := by decide +kernel
theorem d_La_size_7 : decode b_La_size 7 = .ok (.i2l, 1) := by decide +kernel
theorem d_La_size_8 : decode b_La_size 8 = .ok (.lastore, 1) := by decide +kernel
theorem d_La_size_9 : decode b_La_size 9 = .ok (.goto 9, 3) := by decide +kernel
theorem d_La_size_12 : decode b_La_size 12 = .ok (.astore_n 3, 1) := by decide +kernel
theorem d_La_size_13 : decode b_La_size 13 = .ok (.iconst 1, 1) := by decide +kernel
theorem d_La_size_14 : decode b_La_size 14 = .ok (.ireturn, 1) := by decide +kernel
theorem d_La_size_15 : decode b_La_size 15 = .ok (.astore_n 3, 1) := by decide +kernel
theorem d_La_size_16 : decode b_La_size 16 = .ok (.iconst 2, 1) := by decide +kernel
theorem d_La_size_17 : decode b_La_size 17 = .ok (.ireturn, 1) := by decide +kernel
theorem d_La_size_18 : decode b_La_size 18 = .ok (.iconst 0, 1) := by decide +kernel
theorem d_La_size_19 : decode b_La_size 19 = .ok (.ireturn, 1) := by decide +kernel
theorem d_Cc_size_0 : decode b_Cc_size 0 = .ok (.aload_n 0, 1) := by decide +kernel
theorem d_Cc_size_1 : decode b_Cc_size 1 = .ok (.getfield 26, 3) := by decide +kernel
theorem d_Cc_size_4 : decode b_Cc_size 4 = .ok (.iload_n 1, 1) := by decide +kernel
theorem d_Cc_size_5 : decode b_Cc_size 5 = .ok (.invokevirtual 84, 3) := by decide +kernel
theorem d_Cc_size_8 : decode b_Cc_size 8 = .ok (.ireturn, 1) := by decide +kernel
theorem d_Pk_sizeAlong_0 : decode b_Pk_sizeAlong 0 = .ok (.iload_n 1, 1) := by decide +kernel
theorem d_Pk_sizeAlong_1 : decode b_Pk_sizeAlong 1 = .ok (.iconst 3, 1) := by decide +kernel
theorem d_Pk_sizeAlong_2 : decode b_Pk_sizeAlong 2 = .ok (.invokestatic 77, 3) := by decide +kernel
theorem d_Pk_sizeAlong_5 : decode b_Pk_sizeAlong 5 = .ok (.aload_n 0, 1) := by decide +kernel
theorem d_Pk_sizeAlong_6 : decode b_Pk_sizeAlong 6 = .ok (.invokevirtual 81, 3) := by decide +kernel
theorem d_Pk_sizeAlong_9 : decode b_Pk_sizeAlong 9 = .ok (.aload_n 0, 1) := by decide +kernel
theorem d_Pk_sizeAlong_10 : decode b_Pk_sizeAlong 10 = .ok (.getfield 9, 3) := by decide +kernel
theorem d_Pk_sizeAlong_13 : decode b_Pk_sizeAlong 13 = .ok (.iload_n 1, 1) := by decide +kernel
theorem d_Pk_sizeAlong_14 : decode b_Pk_sizeAlong 14 = .ok (.iaload, 1) := by decide +kernel
theorem d_Pk_sizeAlong_15 : decode b_Pk_sizeAlong 15 = .ok (.ireturn, 1) := by decide +kernel
theorem d_Pk_requirePacked_0 : decode b_Pk_requirePacked 0 = .ok (.aload_n 0, 1) := by decide +kernel
theorem d_Pk_requirePacked_1 : decode b_Pk_requirePacked 1 = .ok (.getfield 24, 3) := by decide +kernel
theorem d_Pk_requirePacked_4 : decode b_Pk_requirePacked 4 = .ok (.ifCond .ne 13, 3) := by decide +kernel
theorem d_Pk_requirePacked_7 : decode b_Pk_requirePacked 7 = .ok (.new 86, 3) := by decide +kernel
theorem d_Pk_requirePacked_10 : decode b_Pk_requirePacked 10 = .ok (.dup, 1) := by decide +kernel
theorem d_Pk_requirePacked_11 : decode b_Pk_requirePacked 11 = .ok (.ldc 88, 2) := by decide +kernel
theorem d_Pk_requirePacked_13 : decode b_Pk_requirePacked 13 = .ok (.invokespecial 90, 3) := by decide +kernel
theorem d_Pk_requirePacked_16 : decode b_Pk_requirePacked 16 = .ok (.athrow, 1) := by decide +kernel
theorem d_Pk_requirePacked_17 : decode b_Pk_requirePacked 17 = .ok (.return_, 1) := by decide +kernel
theorem d_La_at_0 : decode b_La_at 0 = .ok (.aload_n 3, 1) := by decide +kernel
theorem d_La_at_1 : decode b_La_at 1 = .ok (.iconst 0, 1) := by decide +kernel
theorem d_La_at_2 : decode b_La_at 2 = .ok (.aload_n 0, 1) := by decide +kernel
theorem d_La_at_3 : decode b_La_at 3 = .ok (.iload_n 1, 1) := by decide +kernel
theorem d_La_at_4 : decode b_La_at 4 = .ok (.iload_n 2, 1) := by decide +kernel
theorem d_La_at_5 : decode b_La_at 5 = .ok (.invokevirtual 44, 3) := by decide +kernel
theorem d_La_at_8 : decode b_La_at 8 = .ok (.i2l, 1) := by decide +kernel
theorem d_La_at_9 : decode b_La_at 9 = .ok (.lastore, 1) := by decide +kernel
theorem d_La_at_10 : decode b_La_at 10 = .ok (.goto 11, 3) := by decide +kernel
theorem d_La_at_13 : decode b_La_at 13 = .ok (.astore 4, 2) := by decide +kernel
theorem d_La_at_15 : decode b_La_at 15 = .ok (.iconst 1, 1) := by decide +kernel
theorem d_La_at_16 : decode b_La_at 16 = .ok (.ireturn, 1) := by decide +kernel
theorem d_La_at_17 : decode b_La_at 17 = .ok (.astore 4, 2) := by decide +kernel
theorem d_La_at_19 : decode b_La_at 19 = .ok (.iconst 2, 1) := by decide +kernel
theorem d_La_at_20 : decode b_La_at 20 = .ok (.ireturn, 1) := by decide +kernel
theorem d_La_at_21 : decode b_La_at 21 = .ok (.iconst 0, 1) := by decide +kernel
theorem d_La_at_22 : decode b_La_at 22 = .ok (.ireturn, 1) := by decide +kernel
theorem d_Cc_at_0 : decode b_Cc_at 0 = .ok (.iload_n 1, 1) := by decide +kernel
theorem d_Cc_at_1 : decode b_Cc_at 1 = .ok (.aload_n 0, 1) := by decide +kernel
theorem d_Cc_at_2 : decode b_Cc_at 2 = .ok (.getfield 10, 3) := by decide +kernel
theorem d_Cc_at_5 : decode b_Cc_at 5 = .ok (.getfield 88, 3) := by decide +kernel
theorem d_Cc_at_8 : decode b_Cc_at 8 = .ok (.invokestatic 92, 3) := by decide +kernel
theorem d_Cc_at_11 : decode b_Cc_at 11 = .ok (.aload_n 0, 1) := by decide +kernel
theorem d_Cc_at_12 : decode b_Cc_at 12 = .ok (.getfield 26, 3) := by decide +kernel
theorem d_Cc_at_15 : decode b_Cc_at 15 = .ok (.iload_n 1, 1) := by decide +kernel
theorem d_Cc_at_16 : decode b_Cc_at 16 = .ok (.iload_n 2, 1) := by decide +kernel
theorem d_Cc_at_17 : decode b_Cc_at 17 = .ok (.invokevirtual 96, 3) := by decide +kernel
theorem d_Cc_at_20 : decode b_Cc_at 20 = .ok (.ireturn, 1) := by decide +kernel
theorem d_Pk_tell_0 : decode b_Pk_tell 0 = .ok (.iload_n 1, 1) := by decide +kernel
theorem d_Pk_tell_1 : decode b_Pk_tell 1 = .ok (.bipush 6, 2) := by decide +kernel
theorem d_Pk_tell_3 : decode b_Pk_tell 3 = .ok (.invokestatic 77, 3) := by decide +kernel
theorem d_Pk_tell_6 : decode b_Pk_tell 6 = .ok (.iload_n 2, 1) := by decide +kernel
theorem d_Pk_tell_7 : decode b_Pk_tell 7 = .ok (.iconst (-1), 1) := by decide +kernel
theorem d_Pk_tell_8 : decode b_Pk_tell 8 = .ok (.if_icmp .eq 17, 3) := by decide +kernel
theorem d_Pk_tell_11 : decode b_Pk_tell 11 = .ok (.iload_n 2, 1) := by decide +kernel
theorem d_Pk_tell_12 : decode b_Pk_tell 12 = .ok (.ifCond .eq 13, 3) := by decide +kernel
theorem d_Pk_tell_15 : decode b_Pk_tell 15 = .ok (.new 34, 3) := by decide +kernel
theorem d_Pk_tell_18 : decode b_Pk_tell 18 = .ok (.dup, 1) := by decide +kernel
theorem d_Pk_tell_19 : decode b_Pk_tell 19 = .ok (.ldc 84, 2) := by decide +kernel
theorem d_Pk_tell_21 : decode b_Pk_tell 21 = .ok (.invokespecial 38, 3) := by decide +kernel
theorem d_Pk_tell_24 : decode b_Pk_tell 24 = .ok (.athrow, 1) := by decide +kernel
theorem d_Pk_tell_25 : decode b_Pk_tell 25 = .ok (.aload_n 0, 1) := by decide +kernel
theorem d_Pk_tell_26 : decode b_Pk_tell 26 = .ok (.invokevirtual 81, 3) := by decide +kernel
theorem d_Pk_tell_29 : decode b_Pk_tell 29 = .ok (.iload_n 2, 1) := by decide +kernel
theorem d_Pk_tell_30 : decode b_Pk_tell 30 = .ok (.iconst (-1), 1) := by decide +kernel
theorem d_Pk_tell_31 : decode b_Pk_tell 31 = .ok (.if_icmp .ne 12, 3) := by decide +kernel
theorem d_Pk_tell_34 : decode b_Pk_tell 34 = .ok (.aload_n 0, 1) := by decide +kernel
theorem d_Pk_tell_35 : decode b_Pk_tell 35 = .ok (.getfield 15, 3) := by decide +kernel
theorem d_Pk_tell_38 : decode b_Pk_tell 38 = .ok (.iload_n 1, 1) := by decide +kernel
theorem d_Pk_tell_39 : decode b_Pk_tell 39 = .ok (.iaload, 1) := by decide +kernel
theorem d_Pk_tell_40 : decode b_Pk_tell 40 = .ok (.goto 9, 3) := by decide +kernel
theorem d_Pk_tell_43 : decode b_Pk_tell 43 = .ok (.aload_n 0, 1) := by decide +kernel
theorem d_Pk_tell_44 : decode b_Pk_tell 44 = .ok (.getfield 18, 3) := by decide +kernel
theorem d_Pk_tell_47 : decode b_Pk_tell 47 = .ok (.iload_n 1, 1) := by decide +kernel
theorem d_Pk_tell_48 : decode b_Pk_tell 48 = .ok (.iaload, 1) := by decide +kernel
theorem d_Pk_tell_49 : decode b_Pk_tell 49 = .ok (.ireturn, 1) := by decide +kernel
theorem d_La_crate_0 : decode b_La_crate 0 = .ok (.aload 4, 2) := by decide +kernel
theorem d_La_crate_2 : decode b_La_crate 2 = .ok (.iconst 0, 1) := by decide +kernel
theorem d_La_crate_3 : decode b_La_crate 3 = .ok (.aload_n 0, 1) := by decide +kernel
theorem d_La_crate_4 : decode b_La_crate 4 = .ok (.iload_n 1, 1) := by decide +kernel
theorem d_La_crate_5 : decode b_La_crate 5 = .ok (.iload_n 2, 1) := by decide +kernel
theorem d_La_crate_6 : decode b_La_crate 6 = .ok (.iload_n 3, 1) := by decide +kernel
theorem d_La_crate_7 : decode b_La_crate 7 = .ok (.invokevirtual 47, 3) := by decide +kernel
theorem d_La_crate_10 : decode b_La_crate 10 = .ok (.i2l, 1) := by decide +kernel
theorem d_La_crate_11 : decode b_La_crate 11 = .ok (.lastore, 1) := by decide +kernel
theorem d_La_crate_12 : decode b_La_crate 12 = .ok (.goto 11, 3) := by decide +kernel
theorem d_La_crate_15 : decode b_La_crate 15 = .ok (.astore 5, 2) := by decide +kernel
theorem d_La_crate_17 : decode b_La_crate 17 = .ok (.iconst 1, 1) := by decide +kernel
theorem d_La_crate_18 : decode b_La_crate 18 = .ok (.ireturn, 1) := by decide +kernel
theorem d_La_crate_19 : decode b_La_crate 19 = .ok (.astore 5, 2) := by decide +kernel
theorem d_La_crate_21 : decode b_La_crate 21 = .ok (.iconst 2, 1) := by decide +kernel
theorem d_La_crate_22 : decode b_La_crate 22 = .ok (.ireturn, 1) := by decide +kernel
theorem d_La_crate_23 : decode b_La_crate 23 = .ok (.iconst 0, 1) := by decide +kernel
theorem d_La_crate_24 : decode b_La_crate 24 = .ok (.ireturn, 1) := by decide +kernel
theorem d_Cc_crate_0 : decode b_Cc_crate 0 = .ok (.aload_n 0, 1) := by decide +kernel
theorem d_Cc_crate_1 : decode b_Cc_crate 1 = .ok (.getfield 33, 3) := by decide +kernel
theorem d_Cc_crate_4 : decode b_Cc_crate 4 = .ok (.iload_n 1, 1) := by decide +kernel
theorem d_Cc_crate_5 : decode b_Cc_crate 5 = .ok (.iload_n 2, 1) := by decide +kernel
theorem d_Cc_crate_6 : decode b_Cc_crate 6 = .ok (.iload_n 3, 1) := by decide +kernel
theorem d_Cc_crate_7 : decode b_Cc_crate 7 = .ok (.invokevirtual 99, 3) := by decide +kernel
theorem d_Cc_crate_10 : decode b_Cc_crate 10 = .ok (.ireturn, 1) := by decide +kernel
theorem d_Sk_add_0 : decode b_Sk_add 0 = .ok (.aload_n 0, 1) := by decide +kernel
theorem d_Sk_add_1 : decode b_Sk_add 1 = .ok (.getfield 25, 3) := by decide +kernel
theorem d_Sk_add_4 : decode b_Sk_add 4 = .ok (.bipush 10, 2) := by decide +kernel
theorem d_Sk_add_6 : decode b_Sk_add 6 = .ok (.invokestatic 29, 3) := by decide +kernel
theorem d_Sk_add_9 : decode b_Sk_add 9 = .ok (.iload_n 1, 1) := by decide +kernel
theorem d_Sk_add_10 : decode b_Sk_add 10 = .ok (.iconst 1, 1) := by decide +kernel
theorem d_Sk_add_11 : decode b_Sk_add 11 = .ok (.sipush 2000, 3) := by decide +kernel
theorem d_Sk_add_14 : decode b_Sk_add 14 = .ok (.invokestatic 33, 3) := by decide +kernel
theorem d_Sk_add_17 : decode b_Sk_add 17 = .ok (.iload_n 2, 1) := by decide +kernel
theorem d_Sk_add_18 : decode b_Sk_add 18 = .ok (.iconst 1, 1) := by decide +kernel
theorem d_Sk_add_19 : decode b_Sk_add 19 = .ok (.sipush 2000, 3) := by decide +kernel
theorem d_Sk_add_22 : decode b_Sk_add 22 = .ok (.invokestatic 33, 3) := by decide +kernel
theorem d_Sk_add_25 : decode b_Sk_add 25 = .ok (.iload_n 3, 1) := by decide +kernel
theorem d_Sk_add_26 : decode b_Sk_add 26 = .ok (.iconst 1, 1) := by decide +kernel
theorem d_Sk_add_27 : decode b_Sk_add 27 = .ok (.sipush 2000, 3) := by decide +kernel
theorem d_Sk_add_30 : decode b_Sk_add 30 = .ok (.invokestatic 33, 3) := by decide +kernel
theorem d_Sk_add_33 : decode b_Sk_add 33 = .ok (.aload_n 0, 1) := by decide +kernel
theorem d_Sk_add_34 : decode b_Sk_add 34 = .ok (.getfield 9, 3) := by decide +kernel
theorem d_Sk_add_37 : decode b_Sk_add 37 = .ok (.aload_n 0, 1) := by decide +kernel
theorem d_Sk_add_38 : decode b_Sk_add 38 = .ok (.getfield 25, 3) := by decide +kernel
theorem d_Sk_add_41 : decode b_Sk_add 41 = .ok (.iload_n 1, 1) := by decide +kernel
theorem d_Sk_add_42 : decode b_Sk_add 42 = .ok (.iastore, 1) := by decide +kernel
theorem d_Sk_add_43 : decode b_Sk_add 43 = .ok (.aload_n 0, 1) := by decide +kernel
theorem d_Sk_add_44 : decode b_Sk_add 44 = .ok (.getfield 15, 3) := by decide +kernel
theorem d_Sk_add_47 : decode b_Sk_add 47 = .ok (.aload_n 0, 1) := by decide +kernel
theorem d_Sk_add_48 : decode b_Sk_add 48 = .ok (.getfield 25, 3) := by decide +kernel
theorem d_Sk_add_51 : decode b_Sk_add 51 = .ok (.iload_n 2, 1) := by decide +kernel
theorem d_Sk_add_52 : decode b_Sk_add 52 = .ok (.iastore, 1) := by decide +kernel
theorem d_Sk_add_53 : decode b_Sk_add 53 = .ok (.aload_n 0, 1) := by decide +kernel
theorem d_Sk_add_54 : decode b_Sk_add 54 = .ok (.getfield 18, 3) := by decide +kernel
theorem d_Sk_add_57 : decode b_Sk_add 57 = .ok (.aload_n 0, 1) := by decide +kernel
theorem d_Sk_add_58 : decode b_Sk_add 58 = .ok (.getfield 25, 3) := by decide +kernel
theorem d_Sk_add_61 : decode b_Sk_add 61 = .ok (.iload_n 3, 1) := by decide +kernel
theorem d_Sk_add_62 : decode b_Sk_add 62 = .ok (.iastore, 1) := by decide +kernel
theorem d_Sk_add_63 : decode b_Sk_add 63 = .ok (.aload_n 0, 1) := by decide +kernel
theorem d_Sk_add_64 : decode b_Sk_add 64 = .ok (.dup, 1) := by decide +kernel
theorem d_Sk_add_65 : decode b_Sk_add 65 = .ok (.getfield 25, 3) := by decide +kernel
theorem d_Sk_add_68 : decode b_Sk_add 68 = .ok (.iconst 1, 1) := by decide +kernel
theorem d_Sk_add_69 : decode b_Sk_add 69 = .ok (.iadd, 1) := by decide +kernel
theorem d_Sk_add_70 : decode b_Sk_add 70 = .ok (.putfield 25, 3) := by decide +kernel
theorem d_Sk_add_73 : decode b_Sk_add 73 = .ok (.aload_n 0, 1) := by decide +kernel
theorem d_Sk_add_74 : decode b_Sk_add 74 = .ok (.getfield 25, 3) := by decide +kernel
theorem d_Sk_add_77 : decode b_Sk_add 77 = .ok (.iconst 1, 1) := by decide +kernel
theorem d_Sk_add_78 : decode b_Sk_add 78 = .ok (.isub, 1) := by decide +kernel
theorem d_Sk_add_79 : decode b_Sk_add 79 = .ok (.ireturn, 1) := by decide +kernel
theorem d_La_match_0 : decode b_La_match 0 = .ok (.aload_n 1, 1) := by decide +kernel
theorem d_La_match_1 : decode b_La_match 1 = .ok (.iconst 0, 1) := by decide +kernel
theorem d_La_match_2 : decode b_La_match 2 = .ok (.aload_n 0, 1) := by decide +kernel
theorem d_La_match_3 : decode b_La_match 3 = .ok (.invokevirtual 50, 3) := by decide +kernel
theorem d_La_match_6 : decode b_La_match 6 = .ok (.i2l, 1) := by decide +kernel
theorem d_La_match_7 : decode b_La_match 7 = .ok (.lastore, 1) := by decide +kernel
theorem d_La_match_8 : decode b_La_match 8 = .ok (.goto 6, 3) := by decide +kernel
theorem d_La_match_11 : decode b_La_match 11 = .ok (.astore_n 2, 1) := by decide +kernel
theorem d_La_match_12 : decode b_La_match 12 = .ok (.iconst 1, 1) := by decide +kernel
theorem d_La_match_13 : decode b_La_match 13 = .ok (.ireturn, 1) := by decide +kernel
theorem d_La_match_14 : decode b_La_match 14 = .ok (.iconst 0, 1) := by decide +kernel
theorem d_La_match_15 : decode b_La_match 15 = .ok (.ireturn, 1) := by decide +kernel
theorem d_Cc_match_0 : decode b_Cc_match 0 = .ok (.aload_n 0, 1) := by decide +kernel
theorem d_Cc_match_1 : decode b_Cc_match 1 = .ok (.getfield 33, 3) := by decide +kernel
theorem d_Cc_match_4 : decode b_Cc_match 4 = .ok (.aload_n 0, 1) := by decide +kernel
theorem d_Cc_match_5 : decode b_Cc_match 5 = .ok (.getfield 26, 3) := by decide +kernel
theorem d_Cc_match_8 : decode b_Cc_match 8 = .ok (.iconst 0, 1) := by decide +kernel
theorem d_Cc_match_9 : decode b_Cc_match 9 = .ok (.invokevirtual 84, 3) := by decide +kernel
theorem d_Cc_match_12 : decode b_Cc_match 12 = .ok (.aload_n 0, 1) := by decide +kernel
theorem d_Cc_match_13 : decode b_Cc_match 13 = .ok (.getfield 26, 3) := by decide +kernel
theorem d_Cc_match_16 : decode b_Cc_match 16 = .ok (.iconst 1, 1) := by decide +kernel
theorem d_Cc_match_17 : decode b_Cc_match 17 = .ok (.invokevirtual 84, 3) := by decide +kernel
theorem d_Cc_match_20 : decode b_Cc_match 20 = .ok (.aload_n 0, 1) := by decide +kernel
theorem d_Cc_match_21 : decode b_Cc_match 21 = .ok (.getfield 26, 3) := by decide +kernel
theorem d_Cc_match_24 : decode b_Cc_match 24 = .ok (.iconst 2, 1) := by decide +kernel
theorem d_Cc_match_25 : decode b_Cc_match 25 = .ok (.invokevirtual 84, 3) := by decide +kernel
theorem d_Cc_match_28 : decode b_Cc_match 28 = .ok (.invokevirtual 101, 3) := by decide +kernel
theorem d_Cc_match_31 : decode b_Cc_match 31 = .ok (.ireturn, 1) := by decide +kernel
theorem d_Sk_takeFor_0 : decode b_Sk_takeFor 0 = .ok (.iconst (-1), 1) := by decide +kernel
theorem d_Sk_takeFor_1 : decode b_Sk_takeFor 1 = .ok (.istore 4, 2) := by decide +kernel
theorem d_Sk_takeFor_3 : decode b_Sk_takeFor 3 = .ok (.ldc2_w 39, 3) := by decide +kernel
theorem d_Sk_takeFor_6 : decode b_Sk_takeFor 6 = .ok (.lstore 5, 2) := by decide +kernel
theorem d_Sk_takeFor_8 : decode b_Sk_takeFor 8 = .ok (.iconst 0, 1) := by decide +kernel
theorem d_Sk_takeFor_9 : decode b_Sk_takeFor 9 = .ok (.istore 7, 2) := by decide +kernel
theorem d_Sk_takeFor_11 : decode b_Sk_takeFor 11 = .ok (.iload 7, 2) := by decide +kernel
theorem d_Sk_takeFor_13 : decode b_Sk_takeFor 13 = .ok (.aload_n 0, 1) := by decide +kernel
theorem d_Sk_takeFor_14 : decode b_Sk_takeFor 14 = .ok (.getfield 25, 3) := by decide +kernel
theorem d_Sk_takeFor_17 : decode b_Sk_takeFor 17 = .ok (.if_icmp .ge 75, 3) := by decide +kernel
theorem d_Sk_takeFor_20 : decode b_Sk_takeFor 20 = .ok (.aload_n 0, 1) := by decide +kernel
theorem d_Sk_takeFor_21 : decode b_Sk_takeFor 21 = .ok (.getfield 9, 3) := by decide +kernel
theorem d_Sk_takeFor_24 : decode b_Sk_takeFor 24 = .ok (.iload 7, 2) := by decide +kernel
theorem d_Sk_takeFor_26 : decode b_Sk_takeFor 26 = .ok (.iaload, 1) := by decide +kernel
theorem d_Sk_takeFor_27 : decode b_Sk_takeFor 27 = .ok (.i2l, 1) := by decide +kernel
theorem d_Sk_takeFor_28 : decode b_Sk_takeFor 28 = .ok (.aload_n 0, 1) := by decide +kernel
theorem d_Sk_takeFor_29 : decode b_Sk_takeFor 29 = .ok (.getfield 15, 3) := by decide +kernel
theorem d_Sk_takeFor_32 : decode b_Sk_takeFor 32 = .ok (.iload 7, 2) := by decide +kernel
theorem d_Sk_takeFor_34 : decode b_Sk_takeFor 34 = .ok (.iaload, 1) := by decide +kernel
theorem d_Sk_takeFor_35 : decode b_Sk_takeFor 35 = .ok (.i2l, 1) := by decide +kernel
theorem d_Sk_takeFor_36 : decode b_Sk_takeFor 36 = .ok (.lmul, 1) := by decide +kernel
theorem d_Sk_takeFor_37 : decode b_Sk_takeFor 37 = .ok (.aload_n 0, 1) := by decide +kernel
theorem d_Sk_takeFor_38 : decode b_Sk_takeFor 38 = .ok (.getfield 18, 3) := by decide +kernel
theorem d_Sk_takeFor_41 : decode b_Sk_takeFor 41 = .ok (.iload 7, 2) := by decide +kernel
theorem d_Sk_takeFor_43 : decode b_Sk_takeFor 43 = .ok (.iaload, 1) := by decide +kernel
theorem d_Sk_takeFor_44 : decode b_Sk_takeFor 44 = .ok (.i2l, 1) := by decide +kernel
theorem d_Sk_takeFor_45 : decode b_Sk_takeFor 45 = .ok (.lmul, 1) := by decide +kernel
theorem d_Sk_takeFor_46 : decode b_Sk_takeFor 46 = .ok (.lstore 8, 2) := by decide +kernel
theorem d_Sk_takeFor_48 : decode b_Sk_takeFor 48 = .ok (.aload_n 0, 1) := by decide +kernel
theorem d_Sk_takeFor_49 : decode b_Sk_takeFor 49 = .ok (.getfield 21, 3) := by decide +kernel
theorem d_Sk_takeFor_52 : decode b_Sk_takeFor 52 = .ok (.iload 7, 2) := by decide +kernel
theorem d_Sk_takeFor_54 : decode b_Sk_takeFor 54 = .ok (.baload, 1) := by decide +kernel
theorem d_Sk_takeFor_55 : decode b_Sk_takeFor 55 = .ok (.ifCond .ne 31, 3) := by decide +kernel
theorem d_Sk_takeFor_58 : decode b_Sk_takeFor 58 = .ok (.aload_n 0, 1) := by decide +kernel
theorem d_Sk_takeFor_59 : decode b_Sk_takeFor 59 = .ok (.iload 7, 2) := by decide +kernel
theorem d_Sk_takeFor_61 : decode b_Sk_takeFor 61 = .ok (.iload_n 1, 1) := by decide +kernel
theorem d_Sk_takeFor_62 : decode b_Sk_takeFor 62 = .ok (.iload_n 2, 1) := by decide +kernel
theorem d_Sk_takeFor_63 : decode b_Sk_takeFor 63 = .ok (.iload_n 3, 1) := by decide +kernel
theorem d_Sk_takeFor_64 : decode b_Sk_takeFor 64 = .ok (.invokevirtual 41, 3) := by decide +kernel
theorem d_Sk_takeFor_67 : decode b_Sk_takeFor 67 = .ok (.ifCond .eq 19, 3) := by decide +kernel
theorem d_Sk_takeFor_70 : decode b_Sk_takeFor 70 = .ok (.lload 8, 2) := by decide +kernel
theorem d_Sk_takeFor_72 : decode b_Sk_takeFor 72 = .ok (.lload 5, 2) := by decide +kernel
theorem d_Sk_takeFor_74 : decode b_Sk_takeFor 74 = .ok (.lcmp, 1) := by decide +kernel
theorem d_Sk_takeFor_75 : decode b_Sk_takeFor 75 = .ok (.ifCond .ge 11, 3) := by decide +kernel
theorem d_Sk_takeFor_78 : decode b_Sk_takeFor 78 = .ok (.iload 7, 2) := by decide +kernel
theorem d_Sk_takeFor_80 : decode b_Sk_takeFor 80 = .ok (.istore 4, 2) := by decide +kernel
theorem d_Sk_takeFor_82 : decode b_Sk_takeFor 82 = .ok (.lload 8, 2) := by decide +kernel
theorem d_Sk_takeFor_84 : decode b_Sk_takeFor 84 = .ok (.lstore 5, 2) := by decide +kernel
theorem d_Sk_takeFor_86 : decode b_Sk_takeFor 86 = .ok (.iinc 7 1, 3) := by decide +kernel
theorem d_Sk_takeFor_89 : decode b_Sk_takeFor 89 = .ok (.goto (-78), 3) := by decide +kernel
theorem d_Sk_takeFor_92 : decode b_Sk_takeFor 92 = .ok (.iload 4, 2) := by decide +kernel
theorem d_Sk_takeFor_94 : decode b_Sk_takeFor 94 = .ok (.iconst (-1), 1) := by decide +kernel
theorem d_Sk_takeFor_95 : decode b_Sk_takeFor 95 = .ok (.if_icmp .eq 11, 3) := by decide +kernel
theorem d_Sk_takeFor_98 : decode b_Sk_takeFor 98 = .ok (.aload_n 0, 1) := by decide +kernel
theorem d_Sk_takeFor_99 : decode b_Sk_takeFor 99 = .ok (.getfield 21, 3) := by decide +kernel
theorem d_Sk_takeFor_102 : decode b_Sk_takeFor 102 = .ok (.iload 4, 2) := by decide +kernel
theorem d_Sk_takeFor_104 : decode b_Sk_takeFor 104 = .ok (.iconst 1, 1) := by decide +kernel
theorem d_Sk_takeFor_105 : decode b_Sk_takeFor 105 = .ok (.bastore, 1) := by decide +kernel
theorem d_Sk_takeFor_106 : decode b_Sk_takeFor 106 = .ok (.iload 4, 2) := by decide +kernel
theorem d_Sk_takeFor_108 : decode b_Sk_takeFor 108 = .ok (.ireturn, 1) := by decide +kernel
theorem d_Sk_hasRoom_0 : decode b_Sk_hasRoom 0 = .ok (.iload_n 2, 1) := by decide +kernel
theorem d_Sk_hasRoom_1 : decode b_Sk_hasRoom 1 = .ok (.aload_n 0, 1) := by decide +kernel
theorem d_Sk_hasRoom_2 : decode b_Sk_hasRoom 2 = .ok (.getfield 9, 3) := by decide +kernel
theorem d_Sk_hasRoom_5 : decode b_Sk_hasRoom 5 = .ok (.iload_n 1, 1) := by decide +kernel
theorem d_Sk_hasRoom_6 : decode b_Sk_hasRoom 6 = .ok (.iaload, 1) := by decide +kernel
theorem d_Sk_hasRoom_7 : decode b_Sk_hasRoom 7 = .ok (.if_icmp .gt 17, 3) := by decide +kernel
theorem d_Sk_hasRoom_10 : decode b_Sk_hasRoom 10 = .ok (.iload_n 3, 1) := by decide +kernel
theorem d_Sk_hasRoom_11 : decode b_Sk_hasRoom 11 = .ok (.aload_n 0, 1) := by decide +kernel
theorem d_Sk_hasRoom_12 : decode b_Sk_hasRoom 12 = .ok (.getfield 15, 3) := by decide +kernel
theorem d_Sk_hasRoom_15 : decode b_Sk_hasRoom 15 = .ok (.iload_n 1, 1) := by decide +kernel
theorem d_Sk_hasRoom_16 : decode b_Sk_hasRoom 16 = .ok (.iaload, 1) := by decide +kernel
theorem d_Sk_hasRoom_17 : decode b_Sk_hasRoom 17 = .ok (.if_icmp .gt 7, 3) := by decide +kernel
theorem d_Sk_hasRoom_20 : decode b_Sk_hasRoom 20 = .ok (.iconst 1, 1) := by decide +kernel
theorem d_Sk_hasRoom_21 : decode b_Sk_hasRoom 21 = .ok (.goto 4, 3) := by decide +kernel
theorem d_Sk_hasRoom_24 : decode b_Sk_hasRoom 24 = .ok (.iconst 0, 1) := by decide +kernel
theorem d_Sk_hasRoom_25 : decode b_Sk_hasRoom 25 = .ok (.istore 5, 2) := by decide +kernel
theorem d_Sk_hasRoom_27 : decode b_Sk_hasRoom 27 = .ok (.iload_n 3, 1) := by decide +kernel
theorem d_Sk_hasRoom_28 : decode b_Sk_hasRoom 28 = .ok (.aload_n 0, 1) := by decide +kernel
theorem d_Sk_hasRoom_29 : decode b_Sk_hasRoom 29 = .ok (.getfield 9, 3) := by decide +kernel
theorem d_Sk_hasRoom_32 : decode b_Sk_hasRoom 32 = .ok (.iload_n 1, 1) := by decide +kernel
theorem d_Sk_hasRoom_33 : decode b_Sk_hasRoom 33 = .ok (.iaload, 1) := by decide +kernel
theorem d_Sk_hasRoom_34 : decode b_Sk_hasRoom 34 = .ok (.if_icmp .gt 17, 3) := by decide +kernel
theorem d_Sk_hasRoom_37 : decode b_Sk_hasRoom 37 = .ok (.iload_n 2, 1) := by decide +kernel
theorem d_Sk_hasRoom_38 : decode b_Sk_hasRoom 38 = .ok (.aload_n 0, 1) := by decide +kernel
theorem d_Sk_hasRoom_39 : decode b_Sk_hasRoom 39 = .ok (.getfield 15, 3) := by decide +kernel
theorem d_Sk_hasRoom_42 : decode b_Sk_hasRoom 42 = .ok (.iload_n 1, 1) := by decide +kernel
theorem d_Sk_hasRoom_43 : decode b_Sk_hasRoom 43 = .ok (.iaload, 1) := by decide +kernel
theorem d_Sk_hasRoom_44 : decode b_Sk_hasRoom 44 = .ok (.if_icmp .gt 7, 3) := by decide +kernel
theorem d_Sk_hasRoom_47 : decode b_Sk_hasRoom 47 = .ok (.iconst 1, 1) := by decide +kernel
theorem d_Sk_hasRoom_48 : decode b_Sk_hasRoom 48 = .ok (.goto 4, 3) := by decide +kernel
theorem d_Sk_hasRoom_51 : decode b_Sk_hasRoom 51 = .ok (.iconst 0, 1) := by decide +kernel
theorem d_Sk_hasRoom_52 : decode b_Sk_hasRoom 52 = .ok (.istore 6, 2) := by decide +kernel
theorem d_Sk_hasRoom_54 : decode b_Sk_hasRoom 54 = .ok (.iload 4, 2) := by decide +kernel
theorem d_Sk_hasRoom_56 : decode b_Sk_hasRoom 56 = .ok (.aload_n 0, 1) := by decide +kernel
theorem d_Sk_hasRoom_57 : decode b_Sk_hasRoom 57 = .ok (.getfield 18, 3) := by decide +kernel
theorem d_Sk_hasRoom_60 : decode b_Sk_hasRoom 60 = .ok (.iload_n 1, 1) := by decide +kernel
theorem d_Sk_hasRoom_61 : decode b_Sk_hasRoom 61 = .ok (.iaload, 1) := by decide +kernel
theorem d_Sk_hasRoom_62 : decode b_Sk_hasRoom 62 = .ok (.if_icmp .gt 17, 3) := by decide +kernel
theorem d_Sk_hasRoom_65 : decode b_Sk_hasRoom 65 = .ok (.iload 5, 2) := by decide +kernel
theorem d_Sk_hasRoom_67 : decode b_Sk_hasRoom 67 = .ok (.ifCond .ne 8, 3) := by decide +kernel
theorem d_Sk_hasRoom_70 : decode b_Sk_hasRoom 70 = .ok (.iload 6, 2) := by decide +kernel
theorem d_Sk_hasRoom_72 : decode b_Sk_hasRoom 72 = .ok (.ifCond .eq 7, 3) := by decide +kernel
theorem d_Sk_hasRoom_75 : decode b_Sk_hasRoom 75 = .ok (.iconst 1, 1) := by decide +kernel
theorem d_Sk_hasRoom_76 : decode b_Sk_hasRoom 76 = .ok (.goto 4, 3) := by decide +kernel
theorem d_Sk_hasRoom_79 : decode b_Sk_hasRoom 79 = .ok (.iconst 0, 1) := by decide +kernel
theorem d_Sk_hasRoom_80 : decode b_Sk_hasRoom 80 = .ok (.ireturn, 1) := by decide +kernel
theorem d_La_free_0 : decode b_La_free 0 = .ok (.aload_n 2, 1) := by decide +kernel
theorem d_La_free_1 : decode b_La_free 1 = .ok (.iconst 0, 1) := by decide +kernel
theorem d_La_free_2 : decode b_La_free 2 = .ok (.aload_n 0, 1) := by decide +kernel
theorem d_La_free_3 : decode b_La_free 3 = .ok (.iload_n 1, 1) := by decide +kernel
theorem d_La_free_4 : decode b_La_free 4 = .ok (.invokevirtual 54, 3) := by decide +kernel
theorem d_La_free_7 : decode b_La_free 7 = .ok (.ifCond .eq 7, 3) := by decide +kernel
theorem d_La_free_10 : decode b_La_free 10 = .ok (.lconst 1, 1) := by decide +kernel
theorem d_La_free_11 : decode b_La_free 11 = .ok (.goto 4, 3) := by decide +kernel
theorem d_La_free_14 : decode b_La_free 14 = .ok (.lconst 0, 1) := by decide +kernel
theorem d_La_free_15 : decode b_La_free 15 = .ok (.lastore, 1) := by decide +kernel
theorem d_La_free_16 : decode b_La_free 16 = .ok (.goto 6, 3) := by decide +kernel
theorem d_La_free_19 : decode b_La_free 19 = .ok (.astore_n 3, 1) := by decide +kernel
theorem d_La_free_20 : decode b_La_free 20 = .ok (.iconst 1, 1) := by decide +kernel
theorem d_La_free_21 : decode b_La_free 21 = .ok (.ireturn, 1) := by decide +kernel
theorem d_La_free_22 : decode b_La_free 22 = .ok (.iconst 0, 1) := by decide +kernel
theorem d_La_free_23 : decode b_La_free 23 = .ok (.ireturn, 1) := by decide +kernel
theorem d_Cc_free_0 : decode b_Cc_free 0 = .ok (.aload_n 0, 1) := by decide +kernel
theorem d_Cc_free_1 : decode b_Cc_free 1 = .ok (.getfield 33, 3) := by decide +kernel
theorem d_Cc_free_4 : decode b_Cc_free 4 = .ok (.iload_n 1, 1) := by decide +kernel
theorem d_Cc_free_5 : decode b_Cc_free 5 = .ok (.invokevirtual 104, 3) := by decide +kernel
theorem d_Cc_free_8 : decode b_Cc_free 8 = .ok (.ireturn, 1) := by decide +kernel
theorem d_Sk_release_0 : decode b_Sk_release 0 = .ok (.iload_n 1, 1) := by decide +kernel
theorem d_Sk_release_1 : decode b_Sk_release 1 = .ok (.aload_n 0, 1) := by decide +kernel
theorem d_Sk_release_2 : decode b_Sk_release 2 = .ok (.getfield 25, 3) := by decide +kernel
theorem d_Sk_release_5 : decode b_Sk_release 5 = .ok (.invokestatic 45, 3) := by decide +kernel
theorem d_Sk_release_8 : decode b_Sk_release 8 = .ok (.aload_n 0, 1) := by decide +kernel
theorem d_Sk_release_9 : decode b_Sk_release 9 = .ok (.getfield 21, 3) := by decide +kernel
theorem d_Sk_release_12 : decode b_Sk_release 12 = .ok (.iload_n 1, 1) := by decide +kernel
theorem d_Sk_release_13 : decode b_Sk_release 13 = .ok (.baload, 1) := by decide +kernel
theorem d_Sk_release_14 : decode b_Sk_release 14 = .ok (.istore_n 2, 1) := by decide +kernel
theorem d_Sk_release_15 : decode b_Sk_release 15 = .ok (.aload_n 0, 1) := by decide +kernel
theorem d_Sk_release_16 : decode b_Sk_release 16 = .ok (.getfield 21, 3) := by decide +kernel
theorem d_Sk_release_19 : decode b_Sk_release 19 = .ok (.iload_n 1, 1) := by decide +kernel
theorem d_Sk_release_20 : decode b_Sk_release 20 = .ok (.iconst 0, 1) := by decide +kernel
theorem d_Sk_release_21 : decode b_Sk_release 21 = .ok (.bastore, 1) := by decide +kernel
theorem d_Sk_release_22 : decode b_Sk_release 22 = .ok (.iload_n 2, 1) := by decide +kernel
theorem d_Sk_release_23 : decode b_Sk_release 23 = .ok (.ireturn, 1) := by decide +kernel
theorem d_La_split_0 : decode b_La_split 0 = .ok (.aload_n 2, 1) := by decide +kernel
theorem d_La_split_1 : decode b_La_split 1 = .ok (.iconst 0, 1) := by decide +kernel
theorem d_La_split_2 : decode b_La_split 2 = .ok (.aload_n 0, 1) := by decide +kernel
theorem d_La_split_3 : decode b_La_split 3 = .ok (.iload_n 1, 1) := by decide +kernel
theorem d_La_split_4 : decode b_La_split 4 = .ok (.invokevirtual 58, 3) := by decide +kernel
theorem d_La_split_7 : decode b_La_split 7 = .ok (.i2l, 1) := by decide +kernel
theorem d_La_split_8 : decode b_La_split 8 = .ok (.lastore, 1) := by decide +kernel
theorem d_La_split_9 : decode b_La_split 9 = .ok (.goto 6, 3) := by decide +kernel
theorem d_La_split_12 : decode b_La_split 12 = .ok (.astore_n 3, 1) := by decide +kernel
theorem d_La_split_13 : decode b_La_split 13 = .ok (.iconst 1, 1) := by decide +kernel
theorem d_La_split_14 : decode b_La_split 14 = .ok (.ireturn, 1) := by decide +kernel
theorem d_La_split_15 : decode b_La_split 15 = .ok (.iconst 0, 1) := by decide +kernel
theorem d_La_split_16 : decode b_La_split 16 = .ok (.ireturn, 1) := by decide +kernel
theorem d_Cc_split_0 : decode b_Cc_split 0 = .ok (.aload_n 0, 1) := by decide +kernel
theorem d_Cc_split_1 : decode b_Cc_split 1 = .ok (.getfield 10, 3) := by decide +kernel
theorem d_Cc_split_4 : decode b_Cc_split 4 = .ok (.iload_n 1, 1) := by decide +kernel
theorem d_Cc_split_5 : decode b_Cc_split 5 = .ok (.invokevirtual 108, 3) := by decide +kernel
theorem d_Cc_split_8 : decode b_Cc_split 8 = .ok (.ireturn, 1) := by decide +kernel
theorem d_Go_leastCrates_0 : decode b_Go_leastCrates 0 = .ok (.iload_n 1, 1) := by decide +kernel
theorem d_Go_leastCrates_1 : decode b_Go_leastCrates 1 = .ok (.iconst 1, 1) := by decide +kernel
theorem d_Go_leastCrates_2 : decode b_Go_leastCrates 2 = .ok (.if_icmp .ge 13, 3) := by decide +kernel
theorem d_Go_leastCrates_5 : decode b_Go_leastCrates 5 = .ok (.new 54, 3) := by decide +kernel
theorem d_Go_leastCrates_8 : decode b_Go_leastCrates 8 = .ok (.dup, 1) := by decide +kernel
theorem d_Go_leastCrates_9 : decode b_Go_leastCrates 9 = .ok (.ldc 56, 2) := by decide +kernel
theorem d_Go_leastCrates_11 : decode b_Go_leastCrates 11 = .ok (.invokespecial 58, 3) := by decide +kernel
theorem d_Go_leastCrates_14 : decode b_Go_leastCrates 14 = .ok (.athrow, 1) := by decide +kernel
theorem d_Go_leastCrates_15 : decode b_Go_leastCrates 15 = .ok (.iconst 0, 1) := by decide +kernel
theorem d_Go_leastCrates_16 : decode b_Go_leastCrates 16 = .ok (.istore_n 2, 1) := by decide +kernel
theorem d_Go_leastCrates_17 : decode b_Go_leastCrates 17 = .ok (.iload_n 2, 1) := by decide +kernel
theorem d_Go_leastCrates_18 : decode b_Go_leastCrates 18 = .ok (.aload_n 0, 1) := by decide +kernel
theorem d_Go_leastCrates_19 : decode b_Go_leastCrates 19 = .ok (.getfield 27, 3) := by decide +kernel
theorem d_Go_leastCrates_22 : decode b_Go_leastCrates 22 = .ok (.if_icmp .ge 21, 3) := by decide +kernel
theorem d_Go_leastCrates_25 : decode b_Go_leastCrates 25 = .ok (.aload_n 0, 1) := by decide +kernel
theorem d_Go_leastCrates_26 : decode b_Go_leastCrates 26 = .ok (.getfield 15, 3) := by decide +kernel
theorem d_Go_leastCrates_29 : decode b_Go_leastCrates 29 = .ok (.iload_n 2, 1) := by decide +kernel
theorem d_Go_leastCrates_30 : decode b_Go_leastCrates 30 = .ok (.iaload, 1) := by decide +kernel
theorem d_Go_leastCrates_31 : decode b_Go_leastCrates 31 = .ok (.iload_n 1, 1) := by decide +kernel
theorem d_Go_leastCrates_32 : decode b_Go_leastCrates 32 = .ok (.if_icmp .le 5, 3) := by decide +kernel
theorem d_Go_leastCrates_35 : decode b_Go_leastCrates 35 = .ok (.iconst (-1), 1) := by decide +kernel
theorem d_Go_leastCrates_36 : decode b_Go_leastCrates 36 = .ok (.ireturn, 1) := by decide +kernel
theorem d_Go_leastCrates_37 : decode b_Go_leastCrates 37 = .ok (.iinc 2 1, 3) := by decide +kernel
theorem d_Go_leastCrates_40 : decode b_Go_leastCrates 40 = .ok (.goto (-23), 3) := by decide +kernel
theorem d_Go_leastCrates_43 : decode b_Go_leastCrates 43 = .ok (.aload_n 0, 1) := by decide +kernel
theorem d_Go_leastCrates_44 : decode b_Go_leastCrates 44 = .ok (.getfield 21, 3) := by decide +kernel
theorem d_Go_leastCrates_47 : decode b_Go_leastCrates 47 = .ok (.iconst 0, 1) := by decide +kernel
theorem d_Go_leastCrates_48 : decode b_Go_leastCrates 48 = .ok (.iconst 0, 1) := by decide +kernel
theorem d_Go_leastCrates_49 : decode b_Go_leastCrates 49 = .ok (.iastore, 1) := by decide +kernel
theorem d_Go_leastCrates_50 : decode b_Go_leastCrates 50 = .ok (.aload_n 0, 1) := by decide +kernel
theorem d_Go_leastCrates_51 : decode b_Go_leastCrates 51 = .ok (.getfield 24, 3) := by decide +kernel
theorem d_Go_leastCrates_54 : decode b_Go_leastCrates 54 = .ok (.iconst 0, 1) := by decide +kernel
theorem d_Go_leastCrates_55 : decode b_Go_leastCrates 55 = .ok (.iload_n 1, 1) := by decide +kernel
theorem d_Go_leastCrates_56 : decode b_Go_leastCrates 56 = .ok (.iastore, 1) := by decide +kernel
theorem d_Go_leastCrates_57 : decode b_Go_leastCrates 57 = .ok (.iconst 1, 1) := by decide +kernel
theorem d_Go_leastCrates_58 : decode b_Go_leastCrates 58 = .ok (.aload_n 0, 1) := by decide +kernel
theorem d_Go_leastCrates_59 : decode b_Go_leastCrates 59 = .ok (.getfield 27, 3) := by decide +kernel
theorem d_Go_leastCrates_62 : decode b_Go_leastCrates 62 = .ok (.ishl, 1) := by decide +kernel
theorem d_Go_leastCrates_63 : decode b_Go_leastCrates 63 = .ok (.istore_n 2, 1) := by decide +kernel
theorem d_Go_leastCrates_64 : decode b_Go_leastCrates 64 = .ok (.iconst 1, 1) := by decide +kernel
theorem d_Go_leastCrates_65 : decode b_Go_leastCrates 65 = .ok (.istore_n 3, 1) := by decide +kernel
theorem d_Go_leastCrates_66 : decode b_Go_leastCrates 66 = .ok (.iload_n 3, 1) := by decide +kernel
theorem d_Go_leastCrates_67 : decode b_Go_leastCrates 67 = .ok (.iload_n 2, 1) := by decide +kernel
theorem d_Go_leastCrates_68 : decode b_Go_leastCrates 68 = .ok (.if_icmp .ge 15, 3) := by decide +kernel
theorem d_Go_leastCrates_71 : decode b_Go_leastCrates 71 = .ok (.aload_n 0, 1) := by decide +kernel
theorem d_Go_leastCrates_72 : decode b_Go_leastCrates 72 = .ok (.iload_n 3, 1) := by decide +kernel
theorem d_Go_leastCrates_73 : decode b_Go_leastCrates 73 = .ok (.iload_n 1, 1) := by decide +kernel
theorem d_Go_leastCrates_74 : decode b_Go_leastCrates 74 = .ok (.invokevirtual 61, 3) := by decide +kernel
theorem d_Go_leastCrates_77 : decode b_Go_leastCrates 77 = .ok (.iinc 3 1, 3) := by decide +kernel
theorem d_Go_leastCrates_80 : decode b_Go_leastCrates 80 = .ok (.goto (-14), 3) := by decide +kernel
theorem d_Go_leastCrates_83 : decode b_Go_leastCrates 83 = .ok (.aload_n 0, 1) := by decide +kernel
theorem d_Go_leastCrates_84 : decode b_Go_leastCrates 84 = .ok (.getfield 21, 3) := by decide +kernel
theorem d_Go_leastCrates_87 : decode b_Go_leastCrates 87 = .ok (.iload_n 2, 1) := by decide +kernel
theorem d_Go_leastCrates_88 : decode b_Go_leastCrates 88 = .ok (.iconst 1, 1) := by decide +kernel
theorem d_Go_leastCrates_89 : decode b_Go_leastCrates 89 = .ok (.isub, 1) := by decide +kernel
theorem d_Go_leastCrates_90 : decode b_Go_leastCrates 90 = .ok (.iaload, 1) := by decide +kernel
theorem d_Go_leastCrates_91 : decode b_Go_leastCrates 91 = .ok (.ireturn, 1) := by decide +kernel
theorem d_Go_partSet_0 : decode b_Go_partSet 0 = .ok (.bipush 7, 2) := by decide +kernel
theorem d_Go_partSet_2 : decode b_Go_partSet 2 = .ok (.istore_n 3, 1) := by decide +kernel
theorem d_Go_partSet_3 : decode b_Go_partSet 3 = .ok (.iconst 0, 1) := by decide +kernel
theorem d_Go_partSet_4 : decode b_Go_partSet 4 = .ok (.istore 4, 2) := by decide +kernel
theorem d_Go_partSet_6 : decode b_Go_partSet 6 = .ok (.iconst 0, 1) := by decide +kernel
theorem d_Go_partSet_7 : decode b_Go_partSet 7 = .ok (.istore 5, 2) := by decide +kernel
theorem d_Go_partSet_9 : decode b_Go_partSet 9 = .ok (.iload 5, 2) := by decide +kernel
theorem d_Go_partSet_11 : decode b_Go_partSet 11 = .ok (.aload_n 0, 1) := by decide +kernel
theorem d_Go_partSet_12 : decode b_Go_partSet 12 = .ok (.getfield 27, 3) := by decide +kernel
theorem d_Go_partSet_15 : decode b_Go_partSet 15 = .ok (.if_icmp .ge 139, 3) := by decide +kernel
theorem d_Go_partSet_18 : decode b_Go_partSet 18 = .ok (.iload_n 1, 1) := by decide +kernel
theorem d_Go_partSet_19 : decode b_Go_partSet 19 = .ok (.iload 5, 2) := by decide +kernel
theorem d_Go_partSet_21 : decode b_Go_partSet 21 = .ok (.ishr, 1) := by decide +kernel
theorem d_Go_partSet_22 : decode b_Go_partSet 22 = .ok (.iconst 1, 1) := by decide +kernel
theorem d_Go_partSet_23 : decode b_Go_partSet 23 = .ok (.iand, 1) := by decide +kernel
theorem d_Go_partSet_24 : decode b_Go_partSet 24 = .ok (.ifCond .ne 6, 3) := by decide +kernel
theorem d_Go_partSet_27 : decode b_Go_partSet 27 = .ok (.goto 121, 3) := by decide +kernel
theorem d_Go_partSet_30 : decode b_Go_partSet 30 = .ok (.iload_n 1, 1) := by decide +kernel
theorem d_Go_partSet_31 : decode b_Go_partSet 31 = .ok (.iconst 1, 1) := by decide +kernel
theorem d_Go_partSet_32 : decode b_Go_partSet 32 = .ok (.iload 5, 2) := by decide +kernel
theorem d_Go_partSet_34 : decode b_Go_partSet 34 = .ok (.ishl, 1) := by decide +kernel
theorem d_Go_partSet_35 : decode b_Go_partSet 35 = .ok (.ixor, 1) := by decide +kernel
theorem d_Go_partSet_36 : decode b_Go_partSet 36 = .ok (.istore 6, 2) := by decide +kernel
theorem d_Go_partSet_38 : decode b_Go_partSet 38 = .ok (.aload_n 0, 1) := by decide +kernel
theorem d_Go_partSet_39 : decode b_Go_partSet 39 = .ok (.getfield 15, 3) := by decide +kernel
theorem d_Go_partSet_42 : decode b_Go_partSet 42 = .ok (.iload 5, 2) := by decide +kernel
theorem d_Go_partSet_44 : decode b_Go_partSet 44 = .ok (.iaload, 1) := by decide +kernel
theorem d_Go_partSet_45 : decode b_Go_partSet 45 = .ok (.iload_n 2, 1) := by decide +kernel
theorem d_Go_partSet_46 : decode b_Go_partSet 46 = .ok (.aload_n 0, 1) := by decide +kernel
theorem d_Go_partSet_47 : decode b_Go_partSet 47 = .ok (.getfield 24, 3) := by decide +kernel
theorem d_Go_partSet_50 : decode b_Go_partSet 50 = .ok (.iload 6, 2) := by decide +kernel
theorem d_Go_partSet_52 : decode b_Go_partSet 52 = .ok (.iaload, 1) := by decide +kernel
theorem d_Go_partSet_53 : decode b_Go_partSet 53 = .ok (.isub, 1) := by decide +kernel
theorem d_Go_partSet_54 : decode b_Go_partSet 54 = .ok (.if_icmp .gt 7, 3) := by decide +kernel
theorem d_Go_partSet_57 : decode b_Go_partSet 57 = .ok (.iconst 1, 1) := by decide +kernel
theorem d_Go_partSet_58 : decode b_Go_partSet 58 = .ok (.goto 4, 3) := by decide +kernel
theorem d_Go_partSet_61 : decode b_Go_partSet 61 = .ok (.iconst 0, 1) := by decide +kernel
theorem d_Go_partSet_62 : decode b_Go_partSet 62 = .ok (.istore 7, 2) := by decide +kernel
theorem d_Go_partSet_64 : decode b_Go_partSet 64 = .ok (.iload 7, 2) := by decide +kernel
theorem d_Go_partSet_66 : decode b_Go_partSet 66 = .ok (.ifCond .eq 13, 3) := by decide +kernel
theorem d_Go_partSet_69 : decode b_Go_partSet 69 = .ok (.aload_n 0, 1) := by decide +kernel
theorem d_Go_partSet_70 : decode b_Go_partSet 70 = .ok (.getfield 21, 3) := by decide +kernel
theorem d_Go_partSet_73 : decode b_Go_partSet 73 = .ok (.iload 6, 2) := by decide +kernel
theorem d_Go_partSet_75 : decode b_Go_partSet 75 = .ok (.iaload, 1) := by decide +kernel
theorem d_Go_partSet_76 : decode b_Go_partSet 76 = .ok (.goto 12, 3) := by decide +kernel
theorem d_Go_partSet_79 : decode b_Go_partSet 79 = .ok (.aload_n 0, 1) := by decide +kernel
theorem d_Go_partSet_80 : decode b_Go_partSet 80 = .ok (.getfield 21, 3) := by decide +kernel
theorem d_Go_partSet_83 : decode b_Go_partSet 83 = .ok (.iload 6, 2) := by decide +kernel
theorem d_Go_partSet_85 : decode b_Go_partSet 85 = .ok (.iaload, 1) := by decide +kernel
theorem d_Go_partSet_86 : decode b_Go_partSet 86 = .ok (.iconst 1, 1) := by decide +kernel
theorem d_Go_partSet_87 : decode b_Go_partSet 87 = .ok (.iadd, 1) := by decide +kernel
theorem d_Go_partSet_88 : decode b_Go_partSet 88 = .ok (.istore 8, 2) := by decide +kernel
theorem d_Go_partSet_90 : decode b_Go_partSet 90 = .ok (.iload 7, 2) := by decide +kernel
theorem d_Go_partSet_92 : decode b_Go_partSet 92 = .ok (.ifCond .eq 21, 3) := by decide +kernel
theorem d_Go_partSet_95 : decode b_Go_partSet 95 = .ok (.aload_n 0, 1) := by decide +kernel
theorem d_Go_partSet_96 : decode b_Go_partSet 96 = .ok (.getfield 24, 3) := by decide +kernel
theorem d_Go_partSet_99 : decode b_Go_partSet 99 = .ok (.iload 6, 2) := by decide +kernel
theorem d_Go_partSet_101 : decode b_Go_partSet 101 = .ok (.iaload, 1) := by decide +kernel
theorem d_Go_partSet_102 : decode b_Go_partSet 102 = .ok (.aload_n 0, 1) := by decide +kernel
theorem d_Go_partSet_103 : decode b_Go_partSet 103 = .ok (.getfield 15, 3) := by decide +kernel
theorem d_Go_partSet_106 : decode b_Go_partSet 106 = .ok (.iload 5, 2) := by decide +kernel
theorem d_Go_partSet_108 : decode b_Go_partSet 108 = .ok (.iaload, 1) := by decide +kernel
theorem d_Go_partSet_109 : decode b_Go_partSet 109 = .ok (.iadd, 1) := by decide +kernel
theorem d_Go_partSet_110 : decode b_Go_partSet 110 = .ok (.goto 10, 3) := by decide +kernel
theorem d_Go_partSet_113 : decode b_Go_partSet 113 = .ok (.aload_n 0, 1) := by decide +kernel
theorem d_Go_partSet_114 : decode b_Go_partSet 114 = .ok (.getfield 15, 3) := by decide +kernel
theorem d_Go_partSet_117 : decode b_Go_partSet 117 = .ok (.iload 5, 2) := by decide +kernel
theorem d_Go_partSet_119 : decode b_Go_partSet 119 = .ok (.iaload, 1) := by decide +kernel
theorem d_Go_partSet_120 : decode b_Go_partSet 120 = .ok (.istore 9, 2) := by decide +kernel
theorem d_Go_partSet_122 : decode b_Go_partSet 122 = .ok (.iload 8, 2) := by decide +kernel
theorem d_Go_partSet_124 : decode b_Go_partSet 124 = .ok (.iload_n 3, 1) := by decide +kernel
theorem d_Go_partSet_125 : decode b_Go_partSet 125 = .ok (.if_icmp .lt 16, 3) := by decide +kernel
theorem d_Go_partSet_128 : decode b_Go_partSet 128 = .ok (.iload 8, 2) := by decide +kernel
theorem d_Go_partSet_130 : decode b_Go_partSet 130 = .ok (.iload_n 3, 1) := by decide +kernel
theorem d_Go_partSet_131 : decode b_Go_partSet 131 = .ok (.if_icmp .ne 17, 3) := by decide +kernel
theorem d_Go_partSet_134 : decode b_Go_partSet 134 = .ok (.iload 9, 2) := by decide +kernel
theorem d_Go_partSet_136 : decode b_Go_partSet 136 = .ok (.iload 4, 2) := by decide +kernel
theorem d_Go_partSet_138 : decode b_Go_partSet 138 = .ok (.if_icmp .ge 10, 3) := by decide +kernel
theorem d_Go_partSet_141 : decode b_Go_partSet 141 = .ok (.iload 8, 2) := by decide +kernel
theorem d_Go_partSet_143 : decode b_Go_partSet 143 = .ok (.istore_n 3, 1) := by decide +kernel
theorem d_Go_partSet_144 : decode b_Go_partSet 144 = .ok (.iload 9, 2) := by decide +kernel
theorem d_Go_partSet_146 : decode b_Go_partSet 146 = .ok (.istore 4, 2) := by decide +kernel
theorem d_Go_partSet_148 : decode b_Go_partSet 148 = .ok (.iinc 5 1, 3) := by decide +kernel
theorem d_Go_partSet_151 : decode b_Go_partSet 151 = .ok (.goto (-142), 3) := by decide +kernel
theorem d_Go_partSet_154 : decode b_Go_partSet 154 = .ok (.aload_n 0, 1) := by decide +kernel
theorem d_Go_partSet_155 : decode b_Go_partSet 155 = .ok (.getfield 21, 3) := by decide +kernel
theorem d_Go_partSet_158 : decode b_Go_partSet 158 = .ok (.iload_n 1, 1) := by decide +kernel
theorem d_Go_partSet_159 : decode b_Go_partSet 159 = .ok (.iload_n 3, 1) := by decide +kernel
theorem d_Go_partSet_160 : decode b_Go_partSet 160 = .ok (.iastore, 1) := by decide +kernel
theorem d_Go_partSet_161 : decode b_Go_partSet 161 = .ok (.aload_n 0, 1) := by decide +kernel
theorem d_Go_partSet_162 : decode b_Go_partSet 162 = .ok (.getfield 24, 3) := by decide +kernel
theorem d_Go_partSet_165 : decode b_Go_partSet 165 = .ok (.iload_n 1, 1) := by decide +kernel
theorem d_Go_partSet_166 : decode b_Go_partSet 166 = .ok (.iload 4, 2) := by decide +kernel
theorem d_Go_partSet_168 : decode b_Go_partSet 168 = .ok (.iastore, 1) := by decide +kernel
theorem d_Go_partSet_169 : decode b_Go_partSet 169 = .ok (.return_, 1) := by decide +kernel
theorem d_La_lag_0 : decode b_La_lag 0 = .ok (.aload_n 2, 1) := by decide +kernel
theorem d_La_lag_1 : decode b_La_lag 1 = .ok (.iconst 0, 1) := by decide +kernel
theorem d_La_lag_2 : decode b_La_lag 2 = .ok (.aload_n 0, 1) := by decide +kernel
theorem d_La_lag_3 : decode b_La_lag 3 = .ok (.iload_n 1, 1) := by decide +kernel
theorem d_La_lag_4 : decode b_La_lag 4 = .ok (.invokevirtual 61, 3) := by decide +kernel
theorem d_La_lag_7 : decode b_La_lag 7 = .ok (.i2l, 1) := by decide +kernel
theorem d_La_lag_8 : decode b_La_lag 8 = .ok (.lastore, 1) := by decide +kernel
theorem d_La_lag_9 : decode b_La_lag 9 = .ok (.goto 6, 3) := by decide +kernel
theorem d_La_lag_12 : decode b_La_lag 12 = .ok (.astore_n 3, 1) := by decide +kernel
theorem d_La_lag_13 : decode b_La_lag 13 = .ok (.iconst 1, 1) := by decide +kernel
theorem d_La_lag_14 : decode b_La_lag 14 = .ok (.ireturn, 1) := by decide +kernel
theorem d_La_lag_15 : decode b_La_lag 15 = .ok (.iconst 0, 1) := by decide +kernel
theorem d_La_lag_16 : decode b_La_lag 16 = .ok (.ireturn, 1) := by decide +kernel
theorem d_Cc_lag_0 : decode b_Cc_lag 0 = .ok (.aload_n 0, 1) := by decide +kernel
theorem d_Cc_lag_1 : decode b_Cc_lag 1 = .ok (.getfield 40, 3) := by decide +kernel
theorem d_Cc_lag_4 : decode b_Cc_lag 4 = .ok (.iload_n 1, 1) := by decide +kernel
theorem d_Cc_lag_5 : decode b_Cc_lag 5 = .ok (.invokevirtual 111, 3) := by decide +kernel
theorem d_Cc_lag_8 : decode b_Cc_lag 8 = .ok (.ireturn, 1) := by decide +kernel
theorem d_Ai_setLag_0 : decode b_Ai_setLag 0 = .ok (.iload_n 1, 1) := by decide +kernel
theorem d_Ai_setLag_1 : decode b_Ai_setLag 1 = .ok (.iconst 1, 1) := by decide +kernel
theorem d_Ai_setLag_2 : decode b_Ai_setLag 2 = .ok (.bipush 100, 2) := by decide +kernel
theorem d_Ai_setLag_4 : decode b_Ai_setLag 4 = .ok (.invokestatic 22, 3) := by decide +kernel
theorem d_Ai_setLag_7 : decode b_Ai_setLag 7 = .ok (.aload_n 0, 1) := by decide +kernel
theorem d_Ai_setLag_8 : decode b_Ai_setLag 8 = .ok (.getfield 19, 3) := by decide +kernel
theorem d_Ai_setLag_11 : decode b_Ai_setLag 11 = .ok (.istore_n 2, 1) := by decide +kernel
theorem d_Ai_setLag_12 : decode b_Ai_setLag 12 = .ok (.aload_n 0, 1) := by decide +kernel
theorem d_Ai_setLag_13 : decode b_Ai_setLag 13 = .ok (.iload_n 1, 1) := by decide +kernel
theorem d_Ai_setLag_14 : decode b_Ai_setLag 14 = .ok (.putfield 19, 3) := by decide +kernel
theorem d_Ai_setLag_17 : decode b_Ai_setLag 17 = .ok (.iload_n 2, 1) := by decide +kernel
theorem d_Ai_setLag_18 : decode b_Ai_setLag 18 = .ok (.ireturn, 1) := by decide +kernel
theorem d_La_climate_0 : decode b_La_climate 0 = .ok (.aload_n 2, 1) := by decide +kernel
theorem d_La_climate_1 : decode b_La_climate 1 = .ok (.iconst 0, 1) := by decide +kernel
theorem d_La_climate_2 : decode b_La_climate 2 = .ok (.aload_n 0, 1) := by decide +kernel
theorem d_La_climate_3 : decode b_La_climate 3 = .ok (.iload_n 1, 1) := by decide +kernel
theorem d_La_climate_4 : decode b_La_climate 4 = .ok (.invokevirtual 64, 3) := by decide +kernel
theorem d_La_climate_7 : decode b_La_climate 7 = .ok (.i2l, 1) := by decide +kernel
theorem d_La_climate_8 : decode b_La_climate 8 = .ok (.lastore, 1) := by decide +kernel
theorem d_La_climate_9 : decode b_La_climate 9 = .ok (.goto 9, 3) := by decide +kernel
theorem d_La_climate_12 : decode b_La_climate 12 = .ok (.astore_n 3, 1) := by decide +kernel
theorem d_La_climate_13 : decode b_La_climate 13 = .ok (.iconst 1, 1) := by decide +kernel
theorem d_La_climate_14 : decode b_La_climate 14 = .ok (.ireturn, 1) := by decide +kernel
theorem d_La_climate_15 : decode b_La_climate 15 = .ok (.astore_n 3, 1) := by decide +kernel
theorem d_La_climate_16 : decode b_La_climate 16 = .ok (.iconst 2, 1) := by decide +kernel
theorem d_La_climate_17 : decode b_La_climate 17 = .ok (.ireturn, 1) := by decide +kernel
theorem d_La_climate_18 : decode b_La_climate 18 = .ok (.iconst 0, 1) := by decide +kernel
theorem d_La_climate_19 : decode b_La_climate 19 = .ok (.ireturn, 1) := by decide +kernel
theorem d_Cc_climate_0 : decode b_Cc_climate 0 = .ok (.aload_n 0, 1) := by decide +kernel
theorem d_Cc_climate_1 : decode b_Cc_climate 1 = .ok (.getfield 40, 3) := by decide +kernel
theorem d_Cc_climate_4 : decode b_Cc_climate 4 = .ok (.iload_n 1, 1) := by decide +kernel
theorem d_Cc_climate_5 : decode b_Cc_climate 5 = .ok (.invokevirtual 114, 3) := by decide +kernel
theorem d_Cc_climate_8 : decode b_Cc_climate 8 = .ok (.ireturn, 1) := by decide +kernel
theorem d_Ai_nextHour_0 : decode b_Ai_nextHour 0 = .ok (.aload_n 0, 1) := by decide +kernel
theorem d_Ai_nextHour_1 : decode b_Ai_nextHour 1 = .ok (.getfield 15, 3) := by decide +kernel
theorem d_Ai_nextHour_4 : decode b_Ai_nextHour 4 = .ok (.sipush 200, 3) := by decide +kernel
theorem d_Ai_nextHour_7 : decode b_Ai_nextHour 7 = .ok (.invokestatic 26, 3) := by decide +kernel
theorem d_Ai_nextHour_10 : decode b_Ai_nextHour 10 = .ok (.iload_n 1, 1) := by decide +kernel
theorem d_Ai_nextHour_11 : decode b_Ai_nextHour 11 = .ok (.bipush (-60), 2) := by decide +kernel
theorem d_Ai_nextHour_13 : decode b_Ai_nextHour 13 = .ok (.bipush 60, 2) := by decide +kernel
theorem d_Ai_nextHour_15 : decode b_Ai_nextHour 15 = .ok (.invokestatic 22, 3) := by decide +kernel
theorem d_Ai_nextHour_18 : decode b_Ai_nextHour 18 = .ok (.aload_n 0, 1) := by decide +kernel
theorem d_Ai_nextHour_19 : decode b_Ai_nextHour 19 = .ok (.getfield 15, 3) := by decide +kernel
theorem d_Ai_nextHour_22 : decode b_Ai_nextHour 22 = .ok (.ifCond .ne 9, 3) := by decide +kernel
theorem d_Ai_nextHour_25 : decode b_Ai_nextHour 25 = .ok (.sipush 20000, 3) := by decide +kernel
theorem d_Ai_nextHour_28 : decode b_Ai_nextHour 28 = .ok (.goto 14, 3) := by decide +kernel
theorem d_Ai_nextHour_31 : decode b_Ai_nextHour 31 = .ok (.aload_n 0, 1) := by decide +kernel
theorem d_Ai_nextHour_32 : decode b_Ai_nextHour 32 = .ok (.getfield 9, 3) := by decide +kernel
theorem d_Ai_nextHour_35 : decode b_Ai_nextHour 35 = .ok (.aload_n 0, 1) := by decide +kernel
theorem d_Ai_nextHour_36 : decode b_Ai_nextHour 36 = .ok (.getfield 15, 3) := by decide +kernel
theorem d_Ai_nextHour_39 : decode b_Ai_nextHour 39 = .ok (.iconst 1, 1) := by decide +kernel
theorem d_Ai_nextHour_40 : decode b_Ai_nextHour 40 = .ok (.isub, 1) := by decide +kernel
theorem d_Ai_nextHour_41 : decode b_Ai_nextHour 41 = .ok (.iaload, 1) := by decide +kernel
theorem d_Ai_nextHour_42 : decode b_Ai_nextHour 42 = .ok (.istore_n 2, 1) := by decide +kernel
theorem d_Ai_nextHour_43 : decode b_Ai_nextHour 43 = .ok (.iload_n 1, 1) := by decide +kernel
theorem d_Ai_nextHour_44 : decode b_Ai_nextHour 44 = .ok (.sipush 1000, 3) := by decide +kernel
theorem d_Ai_nextHour_47 : decode b_Ai_nextHour 47 = .ok (.imul, 1) := by decide +kernel
theorem d_Ai_nextHour_48 : decode b_Ai_nextHour 48 = .ok (.iload_n 2, 1) := by decide +kernel
theorem d_Ai_nextHour_49 : decode b_Ai_nextHour 49 = .ok (.isub, 1) := by decide +kernel
theorem d_Ai_nextHour_50 : decode b_Ai_nextHour 50 = .ok (.aload_n 0, 1) := by decide +kernel
theorem d_Ai_nextHour_51 : decode b_Ai_nextHour 51 = .ok (.getfield 19, 3) := by decide +kernel
theorem d_Ai_nextHour_54 : decode b_Ai_nextHour 54 = .ok (.iconst 1, 1) := by decide +kernel
theorem d_Ai_nextHour_55 : decode b_Ai_nextHour 55 = .ok (.invokestatic 30, 3) := by decide +kernel
theorem d_Ai_nextHour_58 : decode b_Ai_nextHour 58 = .ok (.invokestatic 36, 3) := by decide +kernel
theorem d_Ai_nextHour_61 : decode b_Ai_nextHour 61 = .ok (.istore_n 3, 1) := by decide +kernel
theorem d_Ai_nextHour_62 : decode b_Ai_nextHour 62 = .ok (.aload_n 0, 1) := by decide +kernel
theorem d_Ai_nextHour_63 : decode b_Ai_nextHour 63 = .ok (.getfield 9, 3) := by decide +kernel
theorem d_Ai_nextHour_66 : decode b_Ai_nextHour 66 = .ok (.aload_n 0, 1) := by decide +kernel
theorem d_Ai_nextHour_67 : decode b_Ai_nextHour 67 = .ok (.getfield 15, 3) := by decide +kernel
theorem d_Ai_nextHour_70 : decode b_Ai_nextHour 70 = .ok (.iload_n 2, 1) := by decide +kernel
theorem d_Ai_nextHour_71 : decode b_Ai_nextHour 71 = .ok (.iload_n 3, 1) := by decide +kernel
theorem d_Ai_nextHour_72 : decode b_Ai_nextHour 72 = .ok (.iadd, 1) := by decide +kernel
theorem d_Ai_nextHour_73 : decode b_Ai_nextHour 73 = .ok (.iastore, 1) := by decide +kernel
theorem d_Ai_nextHour_74 : decode b_Ai_nextHour 74 = .ok (.aload_n 0, 1) := by decide +kernel
theorem d_Ai_nextHour_75 : decode b_Ai_nextHour 75 = .ok (.dup, 1) := by decide +kernel
theorem d_Ai_nextHour_76 : decode b_Ai_nextHour 76 = .ok (.getfield 15, 3) := by decide +kernel
theorem d_Ai_nextHour_79 : decode b_Ai_nextHour 79 = .ok (.iconst 1, 1) := by decide +kernel
theorem d_Ai_nextHour_80 : decode b_Ai_nextHour 80 = .ok (.iadd, 1) := by decide +kernel
theorem d_Ai_nextHour_81 : decode b_Ai_nextHour 81 = .ok (.putfield 15, 3) := by decide +kernel
theorem d_Ai_nextHour_84 : decode b_Ai_nextHour 84 = .ok (.iload_n 2, 1) := by decide +kernel
theorem d_Ai_nextHour_85 : decode b_Ai_nextHour 85 = .ok (.iload_n 3, 1) := by decide +kernel
theorem d_Ai_nextHour_86 : decode b_Ai_nextHour 86 = .ok (.iadd, 1) := by decide +kernel
theorem d_Ai_nextHour_87 : decode b_Ai_nextHour 87 = .ok (.ireturn, 1) := by decide +kernel
theorem d_Ma_max_0 : decode b_Ma_max 0 = .ok (.iload_n 0, 1) := by decide +kernel
theorem d_Ma_max_1 : decode b_Ma_max 1 = .ok (.iload_n 1, 1) := by decide +kernel
theorem d_Ma_max_2 : decode b_Ma_max 2 = .ok (.if_icmp .lt 7, 3) := by decide +kernel
theorem d_Ma_max_5 : decode b_Ma_max 5 = .ok (.iload_n 0, 1) := by decide +kernel
theorem d_Ma_max_6 : decode b_Ma_max 6 = .ok (.goto 4, 3) := by decide +kernel
theorem d_Ma_max_9 : decode b_Ma_max 9 = .ok (.iload_n 1, 1) := by decide +kernel
theorem d_Ma_max_10 : decode b_Ma_max 10 = .ok (.ireturn, 1) := by decide +kernel
theorem d_La_inside_0 : decode b_La_inside 0 = .ok (.aload_n 2, 1) := by decide +kernel
theorem d_La_inside_1 : decode b_La_inside 1 = .ok (.iconst 0, 1) := by decide +kernel
theorem d_La_inside_2 : decode b_La_inside 2 = .ok (.aload_n 0, 1) := by decide +kernel
theorem d_La_inside_3 : decode b_La_inside 3 = .ok (.iload_n 1, 1) := by decide +kernel
theorem d_La_inside_4 : decode b_La_inside 4 = .ok (.invokevirtual 67, 3) := by decide +kernel
theorem d_La_inside_7 : decode b_La_inside 7 = .ok (.i2l, 1) := by decide +kernel
theorem d_La_inside_8 : decode b_La_inside 8 = .ok (.lastore, 1) := by decide +kernel
theorem d_La_inside_9 : decode b_La_inside 9 = .ok (.goto 6, 3) := by decide +kernel
theorem d_La_inside_12 : decode b_La_inside 12 = .ok (.astore_n 3, 1) := by decide +kernel
theorem d_La_inside_13 : decode b_La_inside 13 = .ok (.iconst 1, 1) := by decide +kernel
theorem d_La_inside_14 : decode b_La_inside 14 = .ok (.ireturn, 1) := by decide +kernel
theorem d_La_inside_15 : decode b_La_inside 15 = .ok (.iconst 0, 1) := by decide +kernel
theorem d_La_inside_16 : decode b_La_inside 16 = .ok (.ireturn, 1) := by decide +kernel
theorem d_Cc_inside_0 : decode b_Cc_inside 0 = .ok (.aload_n 0, 1) := by decide +kernel
theorem d_Cc_inside_1 : decode b_Cc_inside 1 = .ok (.getfield 40, 3) := by decide +kernel
theorem d_Cc_inside_4 : decode b_Cc_inside 4 = .ok (.iload_n 1, 1) := by decide +kernel
theorem d_Cc_inside_5 : decode b_Cc_inside 5 = .ok (.invokevirtual 117, 3) := by decide +kernel
theorem d_Cc_inside_8 : decode b_Cc_inside 8 = .ok (.ireturn, 1) := by decide +kernel
theorem d_Ai_afterHour_0 : decode b_Ai_afterHour 0 = .ok (.iload_n 1, 1) := by decide +kernel
theorem d_Ai_afterHour_1 : decode b_Ai_afterHour 1 = .ok (.aload_n 0, 1) := by decide +kernel
theorem d_Ai_afterHour_2 : decode b_Ai_afterHour 2 = .ok (.getfield 15, 3) := by decide +kernel
theorem d_Ai_afterHour_5 : decode b_Ai_afterHour 5 = .ok (.invokestatic 39, 3) := by decide +kernel
theorem d_Ai_afterHour_8 : decode b_Ai_afterHour 8 = .ok (.aload_n 0, 1) := by decide +kernel
theorem d_Ai_afterHour_9 : decode b_Ai_afterHour 9 = .ok (.getfield 9, 3) := by decide +kernel
theorem d_Ai_afterHour_12 : decode b_Ai_afterHour 12 = .ok (.iload_n 1, 1) := by decide +kernel
theorem d_Ai_afterHour_13 : decode b_Ai_afterHour 13 = .ok (.iaload, 1) := by decide +kernel
theorem d_Ai_afterHour_14 : decode b_Ai_afterHour 14 = .ok (.ireturn, 1) := by decide +kernel
theorem d_La_steady_0 : decode b_La_steady 0 = .ok (.aload_n 3, 1) := by decide +kernel
theorem d_La_steady_1 : decode b_La_steady 1 = .ok (.iconst 0, 1) := by decide +kernel
theorem d_La_steady_2 : decode b_La_steady 2 = .ok (.aload_n 0, 1) := by decide +kernel
theorem d_La_steady_3 : decode b_La_steady 3 = .ok (.iload_n 1, 1) := by decide +kernel
theorem d_La_steady_4 : decode b_La_steady 4 = .ok (.iload_n 2, 1) := by decide +kernel
theorem d_La_steady_5 : decode b_La_steady 5 = .ok (.invokevirtual 70, 3) := by decide +kernel
theorem d_La_steady_8 : decode b_La_steady 8 = .ok (.i2l, 1) := by decide +kernel
theorem d_La_steady_9 : decode b_La_steady 9 = .ok (.lastore, 1) := by decide +kernel
theorem d_La_steady_10 : decode b_La_steady 10 = .ok (.goto 7, 3) := by decide +kernel
theorem d_La_steady_13 : decode b_La_steady 13 = .ok (.astore 4, 2) := by decide +kernel
theorem d_La_steady_15 : decode b_La_steady 15 = .ok (.iconst 1, 1) := by decide +kernel
theorem d_La_steady_16 : decode b_La_steady 16 = .ok (.ireturn, 1) := by decide +kernel
theorem d_La_steady_17 : decode b_La_steady 17 = .ok (.iconst 0, 1) := by decide +kernel
theorem d_La_steady_18 : decode b_La_steady 18 = .ok (.ireturn, 1) := by decide +kernel
theorem d_Cc_steady_0 : decode b_Cc_steady 0 = .ok (.aload_n 0, 1) := by decide +kernel
theorem d_Cc_steady_1 : decode b_Cc_steady 1 = .ok (.getfield 40, 3) := by decide +kernel
theorem d_Cc_steady_4 : decode b_Cc_steady 4 = .ok (.iload_n 1, 1) := by decide +kernel
theorem d_Cc_steady_5 : decode b_Cc_steady 5 = .ok (.iload_n 2, 1) := by decide +kernel
theorem d_Cc_steady_6 : decode b_Cc_steady 6 = .ok (.invokevirtual 120, 3) := by decide +kernel
theorem d_Cc_steady_9 : decode b_Cc_steady 9 = .ok (.ireturn, 1) := by decide +kernel
theorem d_Ai_longestWithin_0 : decode b_Ai_longestWithin 0 = .ok (.iload_n 1, 1) := by decide +kernel
theorem d_Ai_longestWithin_1 : decode b_Ai_longestWithin 1 = .ok (.iload_n 2, 1) := by decide +kernel
theorem d_Ai_longestWithin_2 : decode b_Ai_longestWithin 2 = .ok (.if_icmp .le 13, 3) := by decide +kernel
theorem d_Ai_longestWithin_5 : decode b_Ai_longestWithin 5 = .ok (.new 42, 3) := by decide +kernel
theorem d_Ai_longestWithin_8 : decode b_Ai_longestWithin 8 = .ok (.dup, 1) := by decide +kernel
theorem d_Ai_longestWithin_9 : decode b_Ai_longestWithin 9 = .ok (.ldc 44, 2) := by decide +kernel
theorem d_Ai_longestWithin_11 : decode b_Ai_longestWithin 11 = .ok (.invokespecial 46, 3) := by decide +kernel
theorem d_Ai_longestWithin_14 : decode b_Ai_longestWithin 14 = .ok (.athrow, 1) := by decide +kernel
theorem d_Ai_longestWithin_15 : decode b_Ai_longestWithin 15 = .ok (.iconst 0, 1) := by decide +kernel
theorem d_Ai_longestWithin_16 : decode b_Ai_longestWithin 16 = .ok (.istore_n 3, 1) := by decide +kernel
theorem d_Ai_longestWithin_17 : decode b_Ai_longestWithin 17 = .ok (.iconst 0, 1) := by decide +kernel
theorem d_Ai_longestWithin_18 : decode b_Ai_longestWithin 18 = .ok (.istore 4, 2) := by decide +kernel
theorem d_Ai_longestWithin_20 : decode b_Ai_longestWithin 20 = .ok (.iconst 0, 1) := by decide +kernel
theorem d_Ai_longestWithin_21 : decode b_Ai_longestWithin 21 = .ok (.istore 5, 2) := by decide +kernel
theorem d_Ai_longestWithin_23 : decode b_Ai_longestWithin 23 = .ok (.iload 5, 2) := by decide +kernel
theorem d_Ai_longestWithin_25 : decode b_Ai_longestWithin 25 = .ok (.aload_n 0, 1) := by decide +kernel
theorem d_Ai_longestWithin_26 : decode b_Ai_longestWithin 26 = .ok (.getfield 15, 3) := by decide +kernel
theorem d_Ai_longestWithin_29 : decode b_Ai_longestWithin 29 = .ok (.if_icmp .ge 60, 3) := by decide +kernel
theorem d_Ai_longestWithin_32 : decode b_Ai_longestWithin 32 = .ok (.aload_n 0, 1) := by decide +kernel
theorem d_Ai_longestWithin_33 : decode b_Ai_longestWithin 33 = .ok (.getfield 9, 3) := by decide +kernel
theorem d_Ai_longestWithin_36 : decode b_Ai_longestWithin 36 = .ok (.iload 5, 2) := by decide +kernel
theorem d_Ai_longestWithin_38 : decode b_Ai_longestWithin 38 = .ok (.iaload, 1) := by decide +kernel
theorem d_Ai_longestWithin_39 : decode b_Ai_longestWithin 39 = .ok (.iload_n 1, 1) := by decide +kernel
theorem d_Ai_longestWithin_40 : decode b_Ai_longestWithin 40 = .ok (.if_icmp .lt 18, 3) := by decide +kernel
theorem d_Ai_longestWithin_43 : decode b_Ai_longestWithin 43 = .ok (.aload_n 0, 1) := by decide +kernel
theorem d_Ai_longestWithin_44 : decode b_Ai_longestWithin 44 = .ok (.getfield 9, 3) := by decide +kernel
theorem d_Ai_longestWithin_47 : decode b_Ai_longestWithin 47 = .ok (.iload 5, 2) := by decide +kernel
theorem d_Ai_longestWithin_49 : decode b_Ai_longestWithin 49 = .ok (.iaload, 1) := by decide +kernel
theorem d_Ai_longestWithin_50 : decode b_Ai_longestWithin 50 = .ok (.iload_n 2, 1) := by decide +kernel
theorem d_Ai_longestWithin_51 : decode b_Ai_longestWithin 51 = .ok (.if_icmp .gt 7, 3) := by decide +kernel
theorem d_Ai_longestWithin_54 : decode b_Ai_longestWithin 54 = .ok (.iconst 1, 1) := by decide +kernel
theorem d_Ai_longestWithin_55 : decode b_Ai_longestWithin 55 = .ok (.goto 4, 3) := by decide +kernel
theorem d_Ai_longestWithin_58 : decode b_Ai_longestWithin 58 = .ok (.iconst 0, 1) := by decide +kernel
theorem d_Ai_longestWithin_59 : decode b_Ai_longestWithin 59 = .ok (.istore 6, 2) := by decide +kernel
theorem d_Ai_longestWithin_61 : decode b_Ai_longestWithin 61 = .ok (.iload 6, 2) := by decide +kernel
theorem d_Ai_longestWithin_63 : decode b_Ai_longestWithin 63 = .ok (.ifCond .eq 10, 3) := by decide +kernel
theorem d_Ai_longestWithin_66 : decode b_Ai_longestWithin 66 = .ok (.iload 4, 2) := by decide +kernel
theorem d_Ai_longestWithin_68 : decode b_Ai_longestWithin 68 = .ok (.iconst 1, 1) := by decide +kernel
theorem d_Ai_longestWithin_69 : decode b_Ai_longestWithin 69 = .ok (.iadd, 1) := by decide +kernel
theorem d_Ai_longestWithin_70 : decode b_Ai_longestWithin 70 = .ok (.goto 4, 3) := by decide +kernel
theorem d_Ai_longestWithin_73 : decode b_Ai_longestWithin 73 = .ok (.iconst 0, 1) := by decide +kernel
theorem d_Ai_longestWithin_74 : decode b_Ai_longestWithin 74 = .ok (.istore 4, 2) := by decide +kernel
theorem d_Ai_longestWithin_76 : decode b_Ai_longestWithin 76 = .ok (.iload_n 3, 1) := by decide +kernel
theorem d_Ai_longestWithin_77 : decode b_Ai_longestWithin 77 = .ok (.iload 4, 2) := by decide +kernel
theorem d_Ai_longestWithin_79 : decode b_Ai_longestWithin 79 = .ok (.invokestatic 30, 3) := by decide +kernel
theorem d_Ai_longestWithin_82 : decode b_Ai_longestWithin 82 = .ok (.istore_n 3, 1) := by decide +kernel
theorem d_Ai_longestWithin_83 : decode b_Ai_longestWithin 83 = .ok (.iinc 5 1, 3) := by decide +kernel
theorem d_Ai_longestWithin_86 : decode b_Ai_longestWithin 86 = .ok (.goto (-63), 3) := by decide +kernel
theorem d_Ai_longestWithin_89 : decode b_Ai_longestWithin 89 = .ok (.iload_n 3, 1) := by decide +kernel
theorem d_Ai_longestWithin_90 : decode b_Ai_longestWithin 90 = .ok (.ireturn, 1) := by decide +kernel
theorem d_La_limit_0 : decode b_La_limit 0 = .ok (.aload_n 0, 1) := by decide +kernel
theorem d_La_limit_1 : decode b_La_limit 1 = .ok (.iload_n 1, 1) := by decide +kernel
theorem d_La_limit_2 : decode b_La_limit 2 = .ok (.iload_n 2, 1) := by decide +kernel
theorem d_La_limit_3 : decode b_La_limit 3 = .ok (.invokevirtual 73, 3) := by decide +kernel
theorem d_La_limit_6 : decode b_La_limit 6 = .ok (.goto 6, 3) := by decide +kernel
theorem d_La_limit_9 : decode b_La_limit 9 = .ok (.astore_n 3, 1) := by decide +kernel
theorem d_La_limit_10 : decode b_La_limit 10 = .ok (.iconst 1, 1) := by decide +kernel
theorem d_La_limit_11 : decode b_La_limit 11 = .ok (.ireturn, 1) := by decide +kernel
theorem d_La_limit_12 : decode b_La_limit 12 = .ok (.iconst 0, 1) := by decide +kernel
theorem d_La_limit_13 : decode b_La_limit 13 = .ok (.ireturn, 1) := by decide +kernel
theorem d_Cc_limit_0 : decode b_Cc_limit 0 = .ok (.aload_n 0, 1) := by decide +kernel
theorem d_Cc_limit_1 : decode b_Cc_limit 1 = .ok (.getfield 47, 3) := by decide +kernel
theorem d_Cc_limit_4 : decode b_Cc_limit 4 = .ok (.iload_n 1, 1) := by decide +kernel
theorem d_Cc_limit_5 : decode b_Cc_limit 5 = .ok (.iload_n 2, 1) := by decide +kernel
theorem d_Cc_limit_6 : decode b_Cc_limit 6 = .ok (.invokevirtual 123, 3) := by decide +kernel
theorem d_Cc_limit_9 : decode b_Cc_limit 9 = .ok (.return_, 1) := by decide +kernel
theorem d_Sh_allow_0 : decode b_Sh_allow 0 = .ok (.iload_n 1, 1) := by decide +kernel
theorem d_Sh_allow_1 : decode b_Sh_allow 1 = .ok (.iconst 1, 1) := by decide +kernel
theorem d_Sh_allow_2 : decode b_Sh_allow 2 = .ok (.sipush 10000, 3) := by decide +kernel
theorem d_Sh_allow_5 : decode b_Sh_allow 5 = .ok (.invokestatic 24, 3) := by decide +kernel
theorem d_Sh_allow_8 : decode b_Sh_allow 8 = .ok (.iload_n 2, 1) := by decide +kernel
theorem d_Sh_allow_9 : decode b_Sh_allow 9 = .ok (.iconst 1, 1) := by decide +kernel
theorem d_Sh_allow_10 : decode b_Sh_allow 10 = .ok (.sipush 10000, 3) := by decide +kernel
theorem d_Sh_allow_13 : decode b_Sh_allow 13 = .ok (.invokestatic 24, 3) := by decide +kernel
theorem d_Sh_allow_16 : decode b_Sh_allow 16 = .ok (.aload_n 0, 1) := by decide +kernel
theorem d_Sh_allow_17 : decode b_Sh_allow 17 = .ok (.iload_n 1, 1) := by decide +kernel
theorem d_Sh_allow_18 : decode b_Sh_allow 18 = .ok (.putfield 9, 3) := by decide +kernel
theorem d_Sh_allow_21 : decode b_Sh_allow 21 = .ok (.aload_n 0, 1) := by decide +kernel
theorem d_Sh_allow_22 : decode b_Sh_allow 22 = .ok (.iload_n 2, 1) := by decide +kernel
theorem d_Sh_allow_23 : decode b_Sh_allow 23 = .ok (.putfield 15, 3) := by decide +kernel
theorem d_Sh_allow_26 : decode b_Sh_allow 26 = .ok (.return_, 1) := by decide +kernel
theorem d_La_shock_0 : decode b_La_shock 0 = .ok (.aload_n 3, 1) := by decide +kernel
theorem d_La_shock_1 : decode b_La_shock 1 = .ok (.iconst 0, 1) := by decide +kernel
theorem d_La_shock_2 : decode b_La_shock 2 = .ok (.aload_n 0, 1) := by decide +kernel
theorem d_La_shock_3 : decode b_La_shock 3 = .ok (.iload_n 1, 1) := by decide +kernel
theorem d_La_shock_4 : decode b_La_shock 4 = .ok (.iload_n 2, 1) := by decide +kernel
theorem d_La_shock_5 : decode b_La_shock 5 = .ok (.invokevirtual 77, 3) := by decide +kernel
theorem d_La_shock_8 : decode b_La_shock 8 = .ok (.ifCond .eq 7, 3) := by decide +kernel
theorem d_La_shock_11 : decode b_La_shock 11 = .ok (.lconst 1, 1) := by decide +kernel
theorem d_La_shock_12 : decode b_La_shock 12 = .ok (.goto 4, 3) := by decide +kernel
theorem d_La_shock_15 : decode b_La_shock 15 = .ok (.lconst 0, 1) := by decide +kernel
theorem d_La_shock_16 : decode b_La_shock 16 = .ok (.lastore, 1) := by decide +kernel
theorem d_La_shock_17 : decode b_La_shock 17 = .ok (.goto 7, 3) := by decide +kernel
theorem d_La_shock_20 : decode b_La_shock 20 = .ok (.astore 4, 2) := by decide +kernel
theorem d_La_shock_22 : decode b_La_shock 22 = .ok (.iconst 1, 1) := by decide +kernel
theorem d_La_shock_23 : decode b_La_shock 23 = .ok (.ireturn, 1) := by decide +kernel
theorem d_La_shock_24 : decode b_La_shock 24 = .ok (.iconst 0, 1) := by decide +kernel
theorem d_La_shock_25 : decode b_La_shock 25 = .ok (.ireturn, 1) := by decide +kernel
theorem d_Cc_shock_0 : decode b_Cc_shock 0 = .ok (.aload_n 0, 1) := by decide +kernel
theorem d_Cc_shock_1 : decode b_Cc_shock 1 = .ok (.getfield 47, 3) := by decide +kernel
theorem d_Cc_shock_4 : decode b_Cc_shock 4 = .ok (.iload_n 1, 1) := by decide +kernel
theorem d_Cc_shock_5 : decode b_Cc_shock 5 = .ok (.iload_n 2, 1) := by decide +kernel
theorem d_Cc_shock_6 : decode b_Cc_shock 6 = .ok (.invokevirtual 126, 3) := by decide +kernel
theorem d_Cc_shock_9 : decode b_Cc_shock 9 = .ok (.ireturn, 1) := by decide +kernel
theorem d_Sh_add_0 : decode b_Sh_add 0 = .ok (.iload_n 1, 1) := by decide +kernel
theorem d_Sh_add_1 : decode b_Sh_add 1 = .ok (.iconst 0, 1) := by decide +kernel
theorem d_Sh_add_2 : decode b_Sh_add 2 = .ok (.sipush 10000, 3) := by decide +kernel
theorem d_Sh_add_5 : decode b_Sh_add 5 = .ok (.invokestatic 24, 3) := by decide +kernel
theorem d_Sh_add_8 : decode b_Sh_add 8 = .ok (.iload_n 2, 1) := by decide +kernel
theorem d_Sh_add_9 : decode b_Sh_add 9 = .ok (.iconst 0, 1) := by decide +kernel
theorem d_Sh_add_10 : decode b_Sh_add 10 = .ok (.sipush 10000, 3) := by decide +kernel
theorem d_Sh_add_13 : decode b_Sh_add 13 = .ok (.invokestatic 24, 3) := by decide +kernel
end
section
theorem d_Sh_add_16 : decode b_Sh_add 16 = .ok (.iload_n 1, 1) := by decide +kernel
theorem d_Sh_add_17 : decode b_Sh_add 17 = .ok (.aload_n 0, 1) := by decide +kernel
theorem d_Sh_add_18 : decode b_Sh_add 18 = .ok (.getfield 9, 3) := by decide +kernel
theorem d_Sh_add_21 : decode b_Sh_add 21 = .ok (.if_icmp .gt 21, 3) := by decide +kernel
theorem d_Sh_add_24 : decode b_Sh_add 24 = .ok (.iload_n 1, 1) := by decide +kernel
theorem d_Sh_add_25 : decode b_Sh_add 25 = .ok (.aload_n 0, 1) := by decide +kernel
theorem d_Sh_add_26 : decode b_Sh_add 26 = .ok (.getfield 9, 3) := by decide +kernel
theorem d_Sh_add_29 : decode b_Sh_add 29 = .ok (.iconst 2, 1) := by decide +kernel
theorem d_Sh_add_30 : decode b_Sh_add 30 = .ok (.idiv, 1) := by decide +kernel
theorem d_Sh_add_31 : decode b_Sh_add 31 = .ok (.if_icmp .le 15, 3) := by decide +kernel
theorem d_Sh_add_34 : decode b_Sh_add 34 = .ok (.iload_n 2, 1) := by decide +kernel
theorem d_Sh_add_35 : decode b_Sh_add 35 = .ok (.aload_n 0, 1) := by decide +kernel
theorem d_Sh_add_36 : decode b_Sh_add 36 = .ok (.getfield 15, 3) := by decide +kernel
theorem d_Sh_add_39 : decode b_Sh_add 39 = .ok (.if_icmp .le 7, 3) := by decide +kernel
theorem d_Sh_add_42 : decode b_Sh_add 42 = .ok (.iconst 1, 1) := by decide +kernel
theorem d_Sh_add_43 : decode b_Sh_add 43 = .ok (.goto 4, 3) := by decide +kernel
theorem d_Sh_add_46 : decode b_Sh_add 46 = .ok (.iconst 0, 1) := by decide +kernel
theorem d_Sh_add_47 : decode b_Sh_add 47 = .ok (.istore_n 3, 1) := by decide +kernel
theorem d_Sh_add_48 : decode b_Sh_add 48 = .ok (.aload_n 0, 1) := by decide +kernel
theorem d_Sh_add_49 : decode b_Sh_add 49 = .ok (.dup, 1) := by decide +kernel
theorem d_Sh_add_50 : decode b_Sh_add 50 = .ok (.getfield 18, 3) := by decide +kernel
theorem d_Sh_add_53 : decode b_Sh_add 53 = .ok (.iconst 1, 1) := by decide +kernel
theorem d_Sh_add_54 : decode b_Sh_add 54 = .ok (.iadd, 1) := by decide +kernel
theorem d_Sh_add_55 : decode b_Sh_add 55 = .ok (.putfield 18, 3) := by decide +kernel
theorem d_Sh_add_58 : decode b_Sh_add 58 = .ok (.iload_n 3, 1) := by decide +kernel
theorem d_Sh_add_59 : decode b_Sh_add 59 = .ok (.ifCond .eq 13, 3) := by decide +kernel
theorem d_Sh_add_62 : decode b_Sh_add 62 = .ok (.aload_n 0, 1) := by decide +kernel
theorem d_Sh_add_63 : decode b_Sh_add 63 = .ok (.dup, 1) := by decide +kernel
theorem d_Sh_add_64 : decode b_Sh_add 64 = .ok (.getfield 21, 3) := by decide +kernel
theorem d_Sh_add_67 : decode b_Sh_add 67 = .ok (.iconst 1, 1) := by decide +kernel
theorem d_Sh_add_68 : decode b_Sh_add 68 = .ok (.iadd, 1) := by decide +kernel
theorem d_Sh_add_69 : decode b_Sh_add 69 = .ok (.putfield 21, 3) := by decide +kernel
theorem d_Sh_add_72 : decode b_Sh_add 72 = .ok (.iload_n 3, 1) := by decide +kernel
theorem d_Sh_add_73 : decode b_Sh_add 73 = .ok (.ireturn, 1) := by decide +kernel
theorem d_La_route_0 : decode b_La_route 0 = .ok (.aload_n 3, 1) := by decide +kernel
theorem d_La_route_1 : decode b_La_route 1 = .ok (.iconst 0, 1) := by decide +kernel
theorem d_La_route_2 : decode b_La_route 2 = .ok (.aload_n 0, 1) := by decide +kernel
theorem d_La_route_3 : decode b_La_route 3 = .ok (.iload_n 1, 1) := by decide +kernel
theorem d_La_route_4 : decode b_La_route 4 = .ok (.iload_n 2, 1) := by decide +kernel
theorem d_La_route_5 : decode b_La_route 5 = .ok (.invokevirtual 81, 3) := by decide +kernel
theorem d_La_route_8 : decode b_La_route 8 = .ok (.i2l, 1) := by decide +kernel
theorem d_La_route_9 : decode b_La_route 9 = .ok (.lastore, 1) := by decide +kernel
theorem d_La_route_10 : decode b_La_route 10 = .ok (.goto 7, 3) := by decide +kernel
theorem d_La_route_13 : decode b_La_route 13 = .ok (.astore 4, 2) := by decide +kernel
theorem d_La_route_15 : decode b_La_route 15 = .ok (.iconst 1, 1) := by decide +kernel
theorem d_La_route_16 : decode b_La_route 16 = .ok (.ireturn, 1) := by decide +kernel
theorem d_La_route_17 : decode b_La_route 17 = .ok (.iconst 0, 1) := by decide +kernel
theorem d_La_route_18 : decode b_La_route 18 = .ok (.ireturn, 1) := by decide +kernel
theorem d_Cc_route_0 : decode b_Cc_route 0 = .ok (.aload_n 0, 1) := by decide +kernel
theorem d_Cc_route_1 : decode b_Cc_route 1 = .ok (.getfield 54, 3) := by decide +kernel
theorem d_Cc_route_4 : decode b_Cc_route 4 = .ok (.iload_n 1, 1) := by decide +kernel
theorem d_Cc_route_5 : decode b_Cc_route 5 = .ok (.iload_n 2, 1) := by decide +kernel
theorem d_Cc_route_6 : decode b_Cc_route 6 = .ok (.invokevirtual 129, 3) := by decide +kernel
theorem d_Cc_route_9 : decode b_Cc_route 9 = .ok (.ireturn, 1) := by decide +kernel
theorem d_Jo_plan_0 : decode b_Jo_plan 0 = .ok (.iload_n 1, 1) := by decide +kernel
theorem d_Jo_plan_1 : decode b_Jo_plan 1 = .ok (.iconst 0, 1) := by decide +kernel
theorem d_Jo_plan_2 : decode b_Jo_plan 2 = .ok (.ldc 19, 2) := by decide +kernel
theorem d_Jo_plan_4 : decode b_Jo_plan 4 = .ok (.invokestatic 20, 3) := by decide +kernel
theorem d_Jo_plan_7 : decode b_Jo_plan 7 = .ok (.iload_n 2, 1) := by decide +kernel
theorem d_Jo_plan_8 : decode b_Jo_plan 8 = .ok (.iconst 1, 1) := by decide +kernel
theorem d_Jo_plan_9 : decode b_Jo_plan 9 = .ok (.bipush 50, 2) := by decide +kernel
theorem d_Jo_plan_11 : decode b_Jo_plan 11 = .ok (.invokestatic 20, 3) := by decide +kernel
theorem d_Jo_plan_14 : decode b_Jo_plan 14 = .ok (.iload_n 1, 1) := by decide +kernel
theorem d_Jo_plan_15 : decode b_Jo_plan 15 = .ok (.istore_n 3, 1) := by decide +kernel
theorem d_Jo_plan_16 : decode b_Jo_plan 16 = .ok (.iconst 0, 1) := by decide +kernel
theorem d_Jo_plan_17 : decode b_Jo_plan 17 = .ok (.istore 4, 2) := by decide +kernel
theorem d_Jo_plan_19 : decode b_Jo_plan 19 = .ok (.iconst 0, 1) := by decide +kernel
theorem d_Jo_plan_20 : decode b_Jo_plan 20 = .ok (.istore 5, 2) := by decide +kernel
theorem d_Jo_plan_22 : decode b_Jo_plan 22 = .ok (.iload 5, 2) := by decide +kernel
theorem d_Jo_plan_24 : decode b_Jo_plan 24 = .ok (.iload_n 2, 1) := by decide +kernel
theorem d_Jo_plan_25 : decode b_Jo_plan 25 = .ok (.if_icmp .ge 46, 3) := by decide +kernel
theorem d_Jo_plan_28 : decode b_Jo_plan 28 = .ok (.iload_n 3, 1) := by decide +kernel
theorem d_Jo_plan_29 : decode b_Jo_plan 29 = .ok (.bipush 75, 2) := by decide +kernel
theorem d_Jo_plan_31 : decode b_Jo_plan 31 = .ok (.imul, 1) := by decide +kernel
theorem d_Jo_plan_32 : decode b_Jo_plan 32 = .ok (.bipush 74, 2) := by decide +kernel
theorem d_Jo_plan_34 : decode b_Jo_plan 34 = .ok (.iadd, 1) := by decide +kernel
theorem d_Jo_plan_35 : decode b_Jo_plan 35 = .ok (.ldc 24, 2) := by decide +kernel
theorem d_Jo_plan_37 : decode b_Jo_plan 37 = .ok (.irem, 1) := by decide +kernel
theorem d_Jo_plan_38 : decode b_Jo_plan 38 = .ok (.istore_n 3, 1) := by decide +kernel
theorem d_Jo_plan_39 : decode b_Jo_plan 39 = .ok (.aload_n 0, 1) := by decide +kernel
theorem d_Jo_plan_40 : decode b_Jo_plan 40 = .ok (.getfield 9, 3) := by decide +kernel
theorem d_Jo_plan_43 : decode b_Jo_plan 43 = .ok (.iload 5, 2) := by decide +kernel
theorem d_Jo_plan_45 : decode b_Jo_plan 45 = .ok (.bipush 10, 2) := by decide +kernel
theorem d_Jo_plan_47 : decode b_Jo_plan 47 = .ok (.iload_n 3, 1) := by decide +kernel
theorem d_Jo_plan_48 : decode b_Jo_plan 48 = .ok (.bipush 91, 2) := by decide +kernel
theorem d_Jo_plan_50 : decode b_Jo_plan 50 = .ok (.irem, 1) := by decide +kernel
theorem d_Jo_plan_51 : decode b_Jo_plan 51 = .ok (.iadd, 1) := by decide +kernel
theorem d_Jo_plan_52 : decode b_Jo_plan 52 = .ok (.iastore, 1) := by decide +kernel
theorem d_Jo_plan_53 : decode b_Jo_plan 53 = .ok (.iload 4, 2) := by decide +kernel
theorem d_Jo_plan_55 : decode b_Jo_plan 55 = .ok (.aload_n 0, 1) := by decide +kernel
theorem d_Jo_plan_56 : decode b_Jo_plan 56 = .ok (.getfield 9, 3) := by decide +kernel
theorem d_Jo_plan_59 : decode b_Jo_plan 59 = .ok (.iload 5, 2) := by decide +kernel
theorem d_Jo_plan_61 : decode b_Jo_plan 61 = .ok (.iaload, 1) := by decide +kernel
theorem d_Jo_plan_62 : decode b_Jo_plan 62 = .ok (.iadd, 1) := by decide +kernel
theorem d_Jo_plan_63 : decode b_Jo_plan 63 = .ok (.istore 4, 2) := by decide +kernel
theorem d_Jo_plan_65 : decode b_Jo_plan 65 = .ok (.iinc 5 1, 3) := by decide +kernel
theorem d_Jo_plan_68 : decode b_Jo_plan 68 = .ok (.goto (-46), 3) := by decide +kernel
theorem d_Jo_plan_71 : decode b_Jo_plan 71 = .ok (.aload_n 0, 1) := by decide +kernel
theorem d_Jo_plan_72 : decode b_Jo_plan 72 = .ok (.iload_n 2, 1) := by decide +kernel
theorem d_Jo_plan_73 : decode b_Jo_plan 73 = .ok (.putfield 15, 3) := by decide +kernel
theorem d_Jo_plan_76 : decode b_Jo_plan 76 = .ok (.iload 4, 2) := by decide +kernel
theorem d_Jo_plan_78 : decode b_Jo_plan 78 = .ok (.ireturn, 1) := by decide +kernel
theorem d_La_drop_0 : decode b_La_drop 0 = .ok (.aload_n 2, 1) := by decide +kernel
theorem d_La_drop_1 : decode b_La_drop 1 = .ok (.iconst 0, 1) := by decide +kernel
theorem d_La_drop_2 : decode b_La_drop 2 = .ok (.aload_n 0, 1) := by decide +kernel
theorem d_La_drop_3 : decode b_La_drop 3 = .ok (.iload_n 1, 1) := by decide +kernel
theorem d_La_drop_4 : decode b_La_drop 4 = .ok (.invokevirtual 84, 3) := by decide +kernel
theorem d_La_drop_7 : decode b_La_drop 7 = .ok (.i2l, 1) := by decide +kernel
theorem d_La_drop_8 : decode b_La_drop 8 = .ok (.lastore, 1) := by decide +kernel
theorem d_La_drop_9 : decode b_La_drop 9 = .ok (.goto 6, 3) := by decide +kernel
theorem d_La_drop_12 : decode b_La_drop 12 = .ok (.astore_n 3, 1) := by decide +kernel
theorem d_La_drop_13 : decode b_La_drop 13 = .ok (.iconst 1, 1) := by decide +kernel
theorem d_La_drop_14 : decode b_La_drop 14 = .ok (.ireturn, 1) := by decide +kernel
theorem d_La_drop_15 : decode b_La_drop 15 = .ok (.iconst 0, 1) := by decide +kernel
theorem d_La_drop_16 : decode b_La_drop 16 = .ok (.ireturn, 1) := by decide +kernel
theorem d_Cc_drop_0 : decode b_Cc_drop 0 = .ok (.aload_n 0, 1) := by decide +kernel
theorem d_Cc_drop_1 : decode b_Cc_drop 1 = .ok (.getfield 54, 3) := by decide +kernel
theorem d_Cc_drop_4 : decode b_Cc_drop 4 = .ok (.iload_n 1, 1) := by decide +kernel
theorem d_Cc_drop_5 : decode b_Cc_drop 5 = .ok (.invokevirtual 132, 3) := by decide +kernel
theorem d_Cc_drop_8 : decode b_Cc_drop 8 = .ok (.ireturn, 1) := by decide +kernel
theorem d_Jo_dropOf_0 : decode b_Jo_dropOf 0 = .ok (.iload_n 1, 1) := by decide +kernel
theorem d_Jo_dropOf_1 : decode b_Jo_dropOf 1 = .ok (.aload_n 0, 1) := by decide +kernel
theorem d_Jo_dropOf_2 : decode b_Jo_dropOf 2 = .ok (.getfield 15, 3) := by decide +kernel
theorem d_Jo_dropOf_5 : decode b_Jo_dropOf 5 = .ok (.invokestatic 25, 3) := by decide +kernel
theorem d_Jo_dropOf_8 : decode b_Jo_dropOf 8 = .ok (.aload_n 0, 1) := by decide +kernel
theorem d_Jo_dropOf_9 : decode b_Jo_dropOf 9 = .ok (.getfield 9, 3) := by decide +kernel
theorem d_Jo_dropOf_12 : decode b_Jo_dropOf 12 = .ok (.iload_n 1, 1) := by decide +kernel
theorem d_Jo_dropOf_13 : decode b_Jo_dropOf 13 = .ok (.iaload, 1) := by decide +kernel
theorem d_Jo_dropOf_14 : decode b_Jo_dropOf 14 = .ok (.ireturn, 1) := by decide +kernel
theorem d_La_count_0 : decode b_La_count 0 = .ok (.aload_n 2, 1) := by decide +kernel
theorem d_La_count_1 : decode b_La_count 1 = .ok (.iconst 0, 1) := by decide +kernel
theorem d_La_count_2 : decode b_La_count 2 = .ok (.aload_n 0, 1) := by decide +kernel
theorem d_La_count_3 : decode b_La_count 3 = .ok (.iload_n 1, 1) := by decide +kernel
theorem d_La_count_4 : decode b_La_count 4 = .ok (.invokevirtual 87, 3) := by decide +kernel
theorem d_La_count_7 : decode b_La_count 7 = .ok (.i2l, 1) := by decide +kernel
theorem d_La_count_8 : decode b_La_count 8 = .ok (.lastore, 1) := by decide +kernel
theorem d_La_count_9 : decode b_La_count 9 = .ok (.goto 6, 3) := by decide +kernel
theorem d_La_count_12 : decode b_La_count 12 = .ok (.astore_n 3, 1) := by decide +kernel
theorem d_La_count_13 : decode b_La_count 13 = .ok (.iconst 1, 1) := by decide +kernel
theorem d_La_count_14 : decode b_La_count 14 = .ok (.ireturn, 1) := by decide +kernel
theorem d_La_count_15 : decode b_La_count 15 = .ok (.iconst 0, 1) := by decide +kernel
theorem d_La_count_16 : decode b_La_count 16 = .ok (.ireturn, 1) := by decide +kernel
theorem d_Cc_count_0 : decode b_Cc_count 0 = .ok (.iload_n 1, 1) := by decide +kernel
theorem d_Cc_count_1 : decode b_Cc_count 1 = .ok (.tableswitch 87 0 5 #[39, 47, 55, 63, 71, 79], 39) := by decide +kernel
theorem d_Cc_count_40 : decode b_Cc_count 40 = .ok (.aload_n 0, 1) := by decide +kernel
theorem d_Cc_count_41 : decode b_Cc_count 41 = .ok (.getfield 10, 3) := by decide +kernel
theorem d_Cc_count_44 : decode b_Cc_count 44 = .ok (.getfield 88, 3) := by decide +kernel
theorem d_Cc_count_47 : decode b_Cc_count 47 = .ok (.ireturn, 1) := by decide +kernel
theorem d_Cc_count_48 : decode b_Cc_count 48 = .ok (.aload_n 0, 1) := by decide +kernel
theorem d_Cc_count_49 : decode b_Cc_count 49 = .ok (.getfield 33, 3) := by decide +kernel
theorem d_Cc_count_52 : decode b_Cc_count 52 = .ok (.getfield 135, 3) := by decide +kernel
theorem d_Cc_count_55 : decode b_Cc_count 55 = .ok (.ireturn, 1) := by decide +kernel
theorem d_Cc_count_56 : decode b_Cc_count 56 = .ok (.aload_n 0, 1) := by decide +kernel
theorem d_Cc_count_57 : decode b_Cc_count 57 = .ok (.getfield 33, 3) := by decide +kernel
theorem d_Cc_count_60 : decode b_Cc_count 60 = .ok (.invokevirtual 136, 3) := by decide +kernel
theorem d_Cc_count_63 : decode b_Cc_count 63 = .ok (.ireturn, 1) := by decide +kernel
theorem d_Cc_count_64 : decode b_Cc_count 64 = .ok (.aload_n 0, 1) := by decide +kernel
theorem d_Cc_count_65 : decode b_Cc_count 65 = .ok (.getfield 40, 3) := by decide +kernel
theorem d_Cc_count_68 : decode b_Cc_count 68 = .ok (.getfield 140, 3) := by decide +kernel
theorem d_Cc_count_71 : decode b_Cc_count 71 = .ok (.ireturn, 1) := by decide +kernel
theorem d_Cc_count_72 : decode b_Cc_count 72 = .ok (.aload_n 0, 1) := by decide +kernel
theorem d_Cc_count_73 : decode b_Cc_count 73 = .ok (.getfield 47, 3) := by decide +kernel
theorem d_Cc_count_76 : decode b_Cc_count 76 = .ok (.getfield 143, 3) := by decide +kernel
theorem d_Cc_count_79 : decode b_Cc_count 79 = .ok (.ireturn, 1) := by decide +kernel
theorem d_Cc_count_80 : decode b_Cc_count 80 = .ok (.aload_n 0, 1) := by decide +kernel
theorem d_Cc_count_81 : decode b_Cc_count 81 = .ok (.getfield 47, 3) := by decide +kernel
theorem d_Cc_count_84 : decode b_Cc_count 84 = .ok (.getfield 144, 3) := by decide +kernel
theorem d_Cc_count_87 : decode b_Cc_count 87 = .ok (.ireturn, 1) := by decide +kernel
theorem d_Cc_count_88 : decode b_Cc_count 88 = .ok (.new 147, 3) := by decide +kernel
theorem d_Cc_count_91 : decode b_Cc_count 91 = .ok (.dup, 1) := by decide +kernel
theorem d_Cc_count_92 : decode b_Cc_count 92 = .ok (.ldc 149, 2) := by decide +kernel
theorem d_Cc_count_94 : decode b_Cc_count 94 = .ok (.invokespecial 151, 3) := by decide +kernel
theorem d_Cc_count_97 : decode b_Cc_count 97 = .ok (.athrow, 1) := by decide +kernel
theorem d_Sk_takenCount_0 : decode b_Sk_takenCount 0 = .ok (.iconst 0, 1) := by decide +kernel
theorem d_Sk_takenCount_1 : decode b_Sk_takenCount 1 = .ok (.istore_n 1, 1) := by decide +kernel
theorem d_Sk_takenCount_2 : decode b_Sk_takenCount 2 = .ok (.iconst 0, 1) := by decide +kernel
theorem d_Sk_takenCount_3 : decode b_Sk_takenCount 3 = .ok (.istore_n 2, 1) := by decide +kernel
theorem d_Sk_takenCount_4 : decode b_Sk_takenCount 4 = .ok (.iload_n 2, 1) := by decide +kernel
theorem d_Sk_takenCount_5 : decode b_Sk_takenCount 5 = .ok (.aload_n 0, 1) := by decide +kernel
theorem d_Sk_takenCount_6 : decode b_Sk_takenCount 6 = .ok (.getfield 25, 3) := by decide +kernel
theorem d_Sk_takenCount_9 : decode b_Sk_takenCount 9 = .ok (.if_icmp .ge 21, 3) := by decide +kernel
theorem d_Sk_takenCount_12 : decode b_Sk_takenCount 12 = .ok (.aload_n 0, 1) := by decide +kernel
theorem d_Sk_takenCount_13 : decode b_Sk_takenCount 13 = .ok (.getfield 21, 3) := by decide +kernel
theorem d_Sk_takenCount_16 : decode b_Sk_takenCount 16 = .ok (.iload_n 2, 1) := by decide +kernel
theorem d_Sk_takenCount_17 : decode b_Sk_takenCount 17 = .ok (.baload, 1) := by decide +kernel
theorem d_Sk_takenCount_18 : decode b_Sk_takenCount 18 = .ok (.ifCond .eq 6, 3) := by decide +kernel
theorem d_Sk_takenCount_21 : decode b_Sk_takenCount 21 = .ok (.iinc 1 1, 3) := by decide +kernel
theorem d_Sk_takenCount_24 : decode b_Sk_takenCount 24 = .ok (.iinc 2 1, 3) := by decide +kernel
theorem d_Sk_takenCount_27 : decode b_Sk_takenCount 27 = .ok (.goto (-23), 3) := by decide +kernel
theorem d_Sk_takenCount_30 : decode b_Sk_takenCount 30 = .ok (.iload_n 1, 1) := by decide +kernel
theorem d_Sk_takenCount_31 : decode b_Sk_takenCount 31 = .ok (.ireturn, 1) := by decide +kernel
theorem d_Mo_init_0 : decode b_Mo_init 0 = .ok (.aload_n 0, 1) := by decide +kernel
theorem d_Mo_init_1 : decode b_Mo_init 1 = .ok (.invokespecial 1, 3) := by decide +kernel
theorem d_Mo_init_4 : decode b_Mo_init 4 = .ok (.aload_n 0, 1) := by decide +kernel
theorem d_Mo_init_5 : decode b_Mo_init 5 = .ok (.bipush 18, 2) := by decide +kernel
theorem d_Mo_init_7 : decode b_Mo_init 7 = .ok (.newarray .int, 2) := by decide +kernel
theorem d_Mo_init_9 : decode b_Mo_init 9 = .ok (.putfield 7, 3) := by decide +kernel
theorem d_Mo_init_12 : decode b_Mo_init 12 = .ok (.aload_n 0, 1) := by decide +kernel
theorem d_Mo_init_13 : decode b_Mo_init 13 = .ok (.bipush 6, 2) := by decide +kernel
theorem d_Mo_init_15 : decode b_Mo_init 15 = .ok (.newarray .int, 2) := by decide +kernel
theorem d_Mo_init_17 : decode b_Mo_init 17 = .ok (.putfield 13, 3) := by decide +kernel
theorem d_Mo_init_20 : decode b_Mo_init 20 = .ok (.aload_n 0, 1) := by decide +kernel
theorem d_Mo_init_21 : decode b_Mo_init 21 = .ok (.bipush 36, 2) := by decide +kernel
theorem d_Mo_init_23 : decode b_Mo_init 23 = .ok (.newarray .boolean, 2) := by decide +kernel
theorem d_Mo_init_25 : decode b_Mo_init 25 = .ok (.putfield 16, 3) := by decide +kernel
theorem d_Mo_init_28 : decode b_Mo_init 28 = .ok (.aload_n 0, 1) := by decide +kernel
theorem d_Mo_init_29 : decode b_Mo_init 29 = .ok (.iconst 4, 1) := by decide +kernel
theorem d_Mo_init_30 : decode b_Mo_init 30 = .ok (.newarray .int, 2) := by decide +kernel
theorem d_Mo_init_32 : decode b_Mo_init 32 = .ok (.putfield 20, 3) := by decide +kernel
theorem d_Mo_init_35 : decode b_Mo_init 35 = .ok (.aload_n 0, 1) := by decide +kernel
theorem d_Mo_init_36 : decode b_Mo_init 36 = .ok (.bipush 32, 2) := by decide +kernel
theorem d_Mo_init_38 : decode b_Mo_init 38 = .ok (.newarray .int, 2) := by decide +kernel
theorem d_Mo_init_40 : decode b_Mo_init 40 = .ok (.putfield 23, 3) := by decide +kernel
theorem d_Mo_init_43 : decode b_Mo_init 43 = .ok (.aload_n 0, 1) := by decide +kernel
theorem d_Mo_init_44 : decode b_Mo_init 44 = .ok (.bipush 32, 2) := by decide +kernel
theorem d_Mo_init_46 : decode b_Mo_init 46 = .ok (.newarray .int, 2) := by decide +kernel
theorem d_Mo_init_48 : decode b_Mo_init 48 = .ok (.putfield 26, 3) := by decide +kernel
theorem d_Mo_init_51 : decode b_Mo_init 51 = .ok (.aload_n 0, 1) := by decide +kernel
theorem d_Mo_init_52 : decode b_Mo_init 52 = .ok (.sipush 192, 3) := by decide +kernel
theorem d_Mo_init_55 : decode b_Mo_init 55 = .ok (.newarray .int, 2) := by decide +kernel
theorem d_Mo_init_57 : decode b_Mo_init 57 = .ok (.putfield 29, 3) := by decide +kernel
theorem d_Mo_init_60 : decode b_Mo_init 60 = .ok (.aload_n 0, 1) := by decide +kernel
theorem d_Mo_init_61 : decode b_Mo_init 61 = .ok (.sipush 192, 3) := by decide +kernel
theorem d_Mo_init_64 : decode b_Mo_init 64 = .ok (.newarray .int, 2) := by decide +kernel
theorem d_Mo_init_66 : decode b_Mo_init 66 = .ok (.putfield 32, 3) := by decide +kernel
theorem d_Mo_init_69 : decode b_Mo_init 69 = .ok (.aload_n 0, 1) := by decide +kernel
theorem d_Mo_init_70 : decode b_Mo_init 70 = .ok (.bipush 6, 2) := by decide +kernel
theorem d_Mo_init_72 : decode b_Mo_init 72 = .ok (.newarray .int, 2) := by decide +kernel
theorem d_Mo_init_74 : decode b_Mo_init 74 = .ok (.putfield 35, 3) := by decide +kernel
theorem d_Mo_init_77 : decode b_Mo_init 77 = .ok (.aload_n 0, 1) := by decide +kernel
theorem d_Mo_init_78 : decode b_Mo_init 78 = .ok (.bipush 6, 2) := by decide +kernel
theorem d_Mo_init_80 : decode b_Mo_init 80 = .ok (.newarray .int, 2) := by decide +kernel
theorem d_Mo_init_82 : decode b_Mo_init 82 = .ok (.putfield 38, 3) := by decide +kernel
theorem d_Mo_init_85 : decode b_Mo_init 85 = .ok (.aload_n 0, 1) := by decide +kernel
theorem d_Mo_init_86 : decode b_Mo_init 86 = .ok (.bipush 64, 2) := by decide +kernel
theorem d_Mo_init_88 : decode b_Mo_init 88 = .ok (.newarray .int, 2) := by decide +kernel
theorem d_Mo_init_90 : decode b_Mo_init 90 = .ok (.putfield 41, 3) := by decide +kernel
theorem d_Mo_init_93 : decode b_Mo_init 93 = .ok (.aload_n 0, 1) := by decide +kernel
theorem d_Mo_init_94 : decode b_Mo_init 94 = .ok (.bipush 30, 2) := by decide +kernel
theorem d_Mo_init_96 : decode b_Mo_init 96 = .ok (.newarray .int, 2) := by decide +kernel
theorem d_Mo_init_98 : decode b_Mo_init 98 = .ok (.putfield 44, 3) := by decide +kernel
theorem d_Mo_init_101 : decode b_Mo_init 101 = .ok (.aload_n 0, 1) := by decide +kernel
theorem d_Mo_init_102 : decode b_Mo_init 102 = .ok (.bipush 10, 2) := by decide +kernel
theorem d_Mo_init_104 : decode b_Mo_init 104 = .ok (.newarray .boolean, 2) := by decide +kernel
theorem d_Mo_init_106 : decode b_Mo_init 106 = .ok (.putfield 47, 3) := by decide +kernel
theorem d_Mo_init_109 : decode b_Mo_init 109 = .ok (.aload_n 0, 1) := by decide +kernel
theorem d_Mo_init_110 : decode b_Mo_init 110 = .ok (.sipush 200, 3) := by decide +kernel
theorem d_Mo_init_113 : decode b_Mo_init 113 = .ok (.newarray .int, 2) := by decide +kernel
theorem d_Mo_init_115 : decode b_Mo_init 115 = .ok (.putfield 50, 3) := by decide +kernel
theorem d_Mo_init_118 : decode b_Mo_init 118 = .ok (.aload_n 0, 1) := by decide +kernel
theorem d_Mo_init_119 : decode b_Mo_init 119 = .ok (.iconst 4, 1) := by decide +kernel
theorem d_Mo_init_120 : decode b_Mo_init 120 = .ok (.putfield 53, 3) := by decide +kernel
theorem d_Mo_init_123 : decode b_Mo_init 123 = .ok (.aload_n 0, 1) := by decide +kernel
theorem d_Mo_init_124 : decode b_Mo_init 124 = .ok (.bipush 50, 2) := by decide +kernel
theorem d_Mo_init_126 : decode b_Mo_init 126 = .ok (.newarray .int, 2) := by decide +kernel
theorem d_Mo_init_128 : decode b_Mo_init 128 = .ok (.putfield 57, 3) := by decide +kernel
theorem d_Mo_init_131 : decode b_Mo_init 131 = .ok (.iconst 0, 1) := by decide +kernel
theorem d_Mo_init_132 : decode b_Mo_init 132 = .ok (.istore_n 1, 1) := by decide +kernel
theorem d_Mo_init_133 : decode b_Mo_init 133 = .ok (.iload_n 1, 1) := by decide +kernel
theorem d_Mo_init_134 : decode b_Mo_init 134 = .ok (.bipush 6, 2) := by decide +kernel
theorem d_Mo_init_136 : decode b_Mo_init 136 = .ok (.if_icmp .ge 16, 3) := by decide +kernel
theorem d_Mo_init_139 : decode b_Mo_init 139 = .ok (.aload_n 0, 1) := by decide +kernel
theorem d_Mo_init_140 : decode b_Mo_init 140 = .ok (.getfield 35, 3) := by decide +kernel
theorem d_Mo_init_143 : decode b_Mo_init 143 = .ok (.iload_n 1, 1) := by decide +kernel
theorem d_Mo_init_144 : decode b_Mo_init 144 = .ok (.iconst (-1), 1) := by decide +kernel
theorem d_Mo_init_145 : decode b_Mo_init 145 = .ok (.iastore, 1) := by decide +kernel
theorem d_Mo_init_146 : decode b_Mo_init 146 = .ok (.iinc 1 1, 3) := by decide +kernel
theorem d_Mo_init_149 : decode b_Mo_init 149 = .ok (.goto (-16), 3) := by decide +kernel
theorem d_Mo_init_152 : decode b_Mo_init 152 = .ok (.return_, 1) := by decide +kernel
theorem d_Mo_thrown_0 : decode b_Mo_thrown 0 = .ok (.aload_n 0, 1) := by decide +kernel
theorem d_Mo_thrown_1 : decode b_Mo_thrown 1 = .ok (.getfield 60, 3) := by decide +kernel
theorem d_Mo_thrown_4 : decode b_Mo_thrown 4 = .ok (.ireturn, 1) := by decide +kernel
theorem d_Mo_object_0 : decode b_Mo_object 0 = .ok (.aload_n 0, 1) := by decide +kernel
theorem d_Mo_object_1 : decode b_Mo_object 1 = .ok (.aload_n 0, 1) := by decide +kernel
theorem d_Mo_object_2 : decode b_Mo_object 2 = .ok (.getfield 63, 3) := by decide +kernel
theorem d_Mo_object_5 : decode b_Mo_object 5 = .ok (.bipush 6, 2) := by decide +kernel
theorem d_Mo_object_7 : decode b_Mo_object 7 = .ok (.if_icmp .ge 7, 3) := by decide +kernel
theorem d_Mo_object_10 : decode b_Mo_object 10 = .ok (.iconst 1, 1) := by decide +kernel
theorem d_Mo_object_11 : decode b_Mo_object 11 = .ok (.goto 4, 3) := by decide +kernel
theorem d_Mo_object_14 : decode b_Mo_object 14 = .ok (.iconst 0, 1) := by decide +kernel
theorem d_Mo_object_15 : decode b_Mo_object 15 = .ok (.iload_n 1, 1) := by decide +kernel
theorem d_Mo_object_16 : decode b_Mo_object 16 = .ok (.iconst 1, 1) := by decide +kernel
theorem d_Mo_object_17 : decode b_Mo_object 17 = .ok (.sipush 200, 3) := by decide +kernel
theorem d_Mo_object_20 : decode b_Mo_object 20 = .ok (.invokestatic 66, 3) := by decide +kernel
theorem d_Mo_object_23 : decode b_Mo_object 23 = .ok (.ifCond .eq 40, 3) := by decide +kernel
theorem d_Mo_object_26 : decode b_Mo_object 26 = .ok (.iload_n 2, 1) := by decide +kernel
theorem d_Mo_object_27 : decode b_Mo_object 27 = .ok (.iconst 1, 1) := by decide +kernel
theorem d_Mo_object_28 : decode b_Mo_object 28 = .ok (.sipush 200, 3) := by decide +kernel
theorem d_Mo_object_31 : decode b_Mo_object 31 = .ok (.invokestatic 66, 3) := by decide +kernel
theorem d_Mo_object_34 : decode b_Mo_object 34 = .ok (.ifCond .eq 29, 3) := by decide +kernel
theorem d_Mo_object_37 : decode b_Mo_object 37 = .ok (.iload_n 3, 1) := by decide +kernel
theorem d_Mo_object_38 : decode b_Mo_object 38 = .ok (.iconst 1, 1) := by decide +kernel
theorem d_Mo_object_39 : decode b_Mo_object 39 = .ok (.sipush 200, 3) := by decide +kernel
theorem d_Mo_object_42 : decode b_Mo_object 42 = .ok (.invokestatic 66, 3) := by decide +kernel
theorem d_Mo_object_45 : decode b_Mo_object 45 = .ok (.ifCond .eq 18, 3) := by decide +kernel
theorem d_Mo_object_48 : decode b_Mo_object 48 = .ok (.iload 4, 2) := by decide +kernel
theorem d_Mo_object_50 : decode b_Mo_object 50 = .ok (.iconst 1, 1) := by decide +kernel
theorem d_Mo_object_51 : decode b_Mo_object 51 = .ok (.ldc 70, 2) := by decide +kernel
theorem d_Mo_object_53 : decode b_Mo_object 53 = .ok (.invokestatic 66, 3) := by decide +kernel
theorem d_Mo_object_56 : decode b_Mo_object 56 = .ok (.ifCond .eq 7, 3) := by decide +kernel
theorem d_Mo_object_59 : decode b_Mo_object 59 = .ok (.iconst 1, 1) := by decide +kernel
theorem d_Mo_object_60 : decode b_Mo_object 60 = .ok (.goto 4, 3) := by decide +kernel
theorem d_Mo_object_63 : decode b_Mo_object 63 = .ok (.iconst 0, 1) := by decide +kernel
theorem d_Mo_object_64 : decode b_Mo_object 64 = .ok (.iconst 1, 1) := by decide +kernel
theorem d_Mo_object_65 : decode b_Mo_object 65 = .ok (.invokevirtual 71, 3) := by decide +kernel
theorem d_Mo_object_68 : decode b_Mo_object 68 = .ok (.ifCond .ne 5, 3) := by decide +kernel
theorem d_Mo_object_71 : decode b_Mo_object 71 = .ok (.iconst 0, 1) := by decide +kernel
theorem d_Mo_object_72 : decode b_Mo_object 72 = .ok (.ireturn, 1) := by decide +kernel
theorem d_Mo_object_73 : decode b_Mo_object 73 = .ok (.aload_n 0, 1) := by decide +kernel
theorem d_Mo_object_74 : decode b_Mo_object 74 = .ok (.getfield 7, 3) := by decide +kernel
theorem d_Mo_object_77 : decode b_Mo_object 77 = .ok (.iconst 3, 1) := by decide +kernel
theorem d_Mo_object_78 : decode b_Mo_object 78 = .ok (.aload_n 0, 1) := by decide +kernel
theorem d_Mo_object_79 : decode b_Mo_object 79 = .ok (.getfield 63, 3) := by decide +kernel
theorem d_Mo_object_82 : decode b_Mo_object 82 = .ok (.imul, 1) := by decide +kernel
theorem d_Mo_object_83 : decode b_Mo_object 83 = .ok (.iload_n 1, 1) := by decide +kernel
theorem d_Mo_object_84 : decode b_Mo_object 84 = .ok (.iastore, 1) := by decide +kernel
theorem d_Mo_object_85 : decode b_Mo_object 85 = .ok (.aload_n 0, 1) := by decide +kernel
theorem d_Mo_object_86 : decode b_Mo_object 86 = .ok (.getfield 7, 3) := by decide +kernel
theorem d_Mo_object_89 : decode b_Mo_object 89 = .ok (.iconst 3, 1) := by decide +kernel
theorem d_Mo_object_90 : decode b_Mo_object 90 = .ok (.aload_n 0, 1) := by decide +kernel
theorem d_Mo_object_91 : decode b_Mo_object 91 = .ok (.getfield 63, 3) := by decide +kernel
theorem d_Mo_object_94 : decode b_Mo_object 94 = .ok (.imul, 1) := by decide +kernel
theorem d_Mo_object_95 : decode b_Mo_object 95 = .ok (.iconst 1, 1) := by decide +kernel
theorem d_Mo_object_96 : decode b_Mo_object 96 = .ok (.iadd, 1) := by decide +kernel
theorem d_Mo_object_97 : decode b_Mo_object 97 = .ok (.iload_n 2, 1) := by decide +kernel
theorem d_Mo_object_98 : decode b_Mo_object 98 = .ok (.iastore, 1) := by decide +kernel
theorem d_Mo_object_99 : decode b_Mo_object 99 = .ok (.aload_n 0, 1) := by decide +kernel
theorem d_Mo_object_100 : decode b_Mo_object 100 = .ok (.getfield 7, 3) := by decide +kernel
theorem d_Mo_object_103 : decode b_Mo_object 103 = .ok (.iconst 3, 1) := by decide +kernel
theorem d_Mo_object_104 : decode b_Mo_object 104 = .ok (.aload_n 0, 1) := by decide +kernel
theorem d_Mo_object_105 : decode b_Mo_object 105 = .ok (.getfield 63, 3) := by decide +kernel
theorem d_Mo_object_108 : decode b_Mo_object 108 = .ok (.imul, 1) := by decide +kernel
theorem d_Mo_object_109 : decode b_Mo_object 109 = .ok (.iconst 2, 1) := by decide +kernel
theorem d_Mo_object_110 : decode b_Mo_object 110 = .ok (.iadd, 1) := by decide +kernel
theorem d_Mo_object_111 : decode b_Mo_object 111 = .ok (.iload_n 3, 1) := by decide +kernel
theorem d_Mo_object_112 : decode b_Mo_object 112 = .ok (.iastore, 1) := by decide +kernel
theorem d_Mo_object_113 : decode b_Mo_object 113 = .ok (.aload_n 0, 1) := by decide +kernel
theorem d_Mo_object_114 : decode b_Mo_object 114 = .ok (.getfield 13, 3) := by decide +kernel
theorem d_Mo_object_117 : decode b_Mo_object 117 = .ok (.aload_n 0, 1) := by decide +kernel
theorem d_Mo_object_118 : decode b_Mo_object 118 = .ok (.getfield 63, 3) := by decide +kernel
theorem d_Mo_object_121 : decode b_Mo_object 121 = .ok (.iload 4, 2) := by decide +kernel
theorem d_Mo_object_123 : decode b_Mo_object 123 = .ok (.iastore, 1) := by decide +kernel
theorem d_Mo_object_124 : decode b_Mo_object 124 = .ok (.aload_n 0, 1) := by decide +kernel
theorem d_Mo_object_125 : decode b_Mo_object 125 = .ok (.dup, 1) := by decide +kernel
theorem d_Mo_object_126 : decode b_Mo_object 126 = .ok (.getfield 63, 3) := by decide +kernel
theorem d_Mo_object_129 : decode b_Mo_object 129 = .ok (.iconst 1, 1) := by decide +kernel
theorem d_Mo_object_130 : decode b_Mo_object 130 = .ok (.iadd, 1) := by decide +kernel
theorem d_Mo_object_131 : decode b_Mo_object 131 = .ok (.putfield 63, 3) := by decide +kernel
theorem d_Mo_object_134 : decode b_Mo_object 134 = .ok (.aload_n 0, 1) := by decide +kernel
theorem d_Mo_object_135 : decode b_Mo_object 135 = .ok (.getfield 63, 3) := by decide +kernel
theorem d_Mo_object_138 : decode b_Mo_object 138 = .ok (.iconst 1, 1) := by decide +kernel
theorem d_Mo_object_139 : decode b_Mo_object 139 = .ok (.isub, 1) := by decide +kernel
theorem d_Mo_object_140 : decode b_Mo_object 140 = .ok (.ireturn, 1) := by decide +kernel
theorem d_Mo_within_0 : decode b_Mo_within 0 = .ok (.iload_n 0, 1) := by decide +kernel
theorem d_Mo_within_1 : decode b_Mo_within 1 = .ok (.iload_n 1, 1) := by decide +kernel
theorem d_Mo_within_2 : decode b_Mo_within 2 = .ok (.if_icmp .lt 12, 3) := by decide +kernel
theorem d_Mo_within_5 : decode b_Mo_within 5 = .ok (.iload_n 0, 1) := by decide +kernel
theorem d_Mo_within_6 : decode b_Mo_within 6 = .ok (.iload_n 2, 1) := by decide +kernel
theorem d_Mo_within_7 : decode b_Mo_within 7 = .ok (.if_icmp .gt 7, 3) := by decide +kernel
theorem d_Mo_within_10 : decode b_Mo_within 10 = .ok (.iconst 1, 1) := by decide +kernel
theorem d_Mo_within_11 : decode b_Mo_within 11 = .ok (.goto 4, 3) := by decide +kernel
theorem d_Mo_within_14 : decode b_Mo_within 14 = .ok (.iconst 0, 1) := by decide +kernel
theorem d_Mo_within_15 : decode b_Mo_within 15 = .ok (.ireturn, 1) := by decide +kernel
theorem d_Mo_goes_0 : decode b_Mo_goes 0 = .ok (.aload_n 0, 1) := by decide +kernel
theorem d_Mo_goes_1 : decode b_Mo_goes 1 = .ok (.iload_n 1, 1) := by decide +kernel
theorem d_Mo_goes_2 : decode b_Mo_goes 2 = .ok (.ifCond .ne 7, 3) := by decide +kernel
theorem d_Mo_goes_5 : decode b_Mo_goes 5 = .ok (.iconst 1, 1) := by decide +kernel
theorem d_Mo_goes_6 : decode b_Mo_goes 6 = .ok (.goto 20, 3) := by decide +kernel
theorem d_Mo_goes_9 : decode b_Mo_goes 9 = .ok (.iload_n 2, 1) := by decide +kernel
theorem d_Mo_goes_10 : decode b_Mo_goes 10 = .ok (.ifCond .ne 7, 3) := by decide +kernel
theorem d_Mo_goes_13 : decode b_Mo_goes 13 = .ok (.iconst 2, 1) := by decide +kernel
theorem d_Mo_goes_14 : decode b_Mo_goes 14 = .ok (.goto 12, 3) := by decide +kernel
theorem d_Mo_goes_17 : decode b_Mo_goes 17 = .ok (.iload_n 3, 1) := by decide +kernel
theorem d_Mo_goes_18 : decode b_Mo_goes 18 = .ok (.ifCond .ne 7, 3) := by decide +kernel
theorem d_Mo_goes_21 : decode b_Mo_goes 21 = .ok (.iconst 3, 1) := by decide +kernel
theorem d_Mo_goes_22 : decode b_Mo_goes 22 = .ok (.goto 4, 3) := by decide +kernel
theorem d_Mo_goes_25 : decode b_Mo_goes 25 = .ok (.iconst 0, 1) := by decide +kernel
theorem d_Mo_goes_26 : decode b_Mo_goes 26 = .ok (.putfield 60, 3) := by decide +kernel
theorem d_Mo_goes_29 : decode b_Mo_goes 29 = .ok (.aload_n 0, 1) := by decide +kernel
theorem d_Mo_goes_30 : decode b_Mo_goes 30 = .ok (.getfield 60, 3) := by decide +kernel
theorem d_Mo_goes_33 : decode b_Mo_goes 33 = .ok (.ifCond .ne 7, 3) := by decide +kernel
theorem d_Mo_goes_36 : decode b_Mo_goes 36 = .ok (.iconst 1, 1) := by decide +kernel
theorem d_Mo_goes_37 : decode b_Mo_goes 37 = .ok (.goto 4, 3) := by decide +kernel
theorem d_Mo_goes_40 : decode b_Mo_goes 40 = .ok (.iconst 0, 1) := by decide +kernel
theorem d_Mo_goes_41 : decode b_Mo_goes 41 = .ok (.ireturn, 1) := by decide +kernel
theorem d_Mo_weak_0 : decode b_Mo_weak 0 = .ok (.aload_n 0, 1) := by decide +kernel
theorem d_Mo_weak_1 : decode b_Mo_weak 1 = .ok (.aload_n 0, 1) := by decide +kernel
theorem d_Mo_weak_2 : decode b_Mo_weak 2 = .ok (.iload_n 1, 1) := by decide +kernel
theorem d_Mo_weak_3 : decode b_Mo_weak 3 = .ok (.invokevirtual 75, 3) := by decide +kernel
theorem d_Mo_weak_6 : decode b_Mo_weak 6 = .ok (.ifCond .eq 16, 3) := by decide +kernel
theorem d_Mo_weak_9 : decode b_Mo_weak 9 = .ok (.iload_n 2, 1) := by decide +kernel
theorem d_Mo_weak_10 : decode b_Mo_weak 10 = .ok (.iconst 0, 1) := by decide +kernel
theorem d_Mo_weak_11 : decode b_Mo_weak 11 = .ok (.iconst 5, 1) := by decide +kernel
theorem d_Mo_weak_12 : decode b_Mo_weak 12 = .ok (.invokestatic 66, 3) := by decide +kernel
theorem d_Mo_weak_15 : decode b_Mo_weak 15 = .ok (.ifCond .eq 7, 3) := by decide +kernel
theorem d_Mo_weak_18 : decode b_Mo_weak 18 = .ok (.iconst 1, 1) := by decide +kernel
theorem d_Mo_weak_19 : decode b_Mo_weak 19 = .ok (.goto 4, 3) := by decide +kernel
theorem d_Mo_weak_22 : decode b_Mo_weak 22 = .ok (.iconst 0, 1) := by decide +kernel
theorem d_Mo_weak_23 : decode b_Mo_weak 23 = .ok (.iconst 1, 1) := by decide +kernel
theorem d_Mo_weak_24 : decode b_Mo_weak 24 = .ok (.iconst 1, 1) := by decide +kernel
theorem d_Mo_weak_25 : decode b_Mo_weak 25 = .ok (.invokevirtual 71, 3) := by decide +kernel
theorem d_Mo_weak_28 : decode b_Mo_weak 28 = .ok (.ifCond .ne 5, 3) := by decide +kernel
theorem d_Mo_weak_31 : decode b_Mo_weak 31 = .ok (.iconst 0, 1) := by decide +kernel
theorem d_Mo_weak_32 : decode b_Mo_weak 32 = .ok (.ireturn, 1) := by decide +kernel
theorem d_Mo_weak_33 : decode b_Mo_weak 33 = .ok (.aload_n 0, 1) := by decide +kernel
theorem d_Mo_weak_34 : decode b_Mo_weak 34 = .ok (.getfield 16, 3) := by decide +kernel
theorem d_Mo_weak_37 : decode b_Mo_weak 37 = .ok (.bipush 6, 2) := by decide +kernel
theorem d_Mo_weak_39 : decode b_Mo_weak 39 = .ok (.iload_n 1, 1) := by decide +kernel
theorem d_Mo_weak_40 : decode b_Mo_weak 40 = .ok (.imul, 1) := by decide +kernel
theorem d_Mo_weak_41 : decode b_Mo_weak 41 = .ok (.iload_n 2, 1) := by decide +kernel
theorem d_Mo_weak_42 : decode b_Mo_weak 42 = .ok (.iadd, 1) := by decide +kernel
theorem d_Mo_weak_43 : decode b_Mo_weak 43 = .ok (.baload, 1) := by decide +kernel
theorem d_Mo_weak_44 : decode b_Mo_weak 44 = .ok (.istore 4, 2) := by decide +kernel
theorem d_Mo_weak_46 : decode b_Mo_weak 46 = .ok (.aload_n 0, 1) := by decide +kernel
theorem d_Mo_weak_47 : decode b_Mo_weak 47 = .ok (.getfield 16, 3) := by decide +kernel
theorem d_Mo_weak_50 : decode b_Mo_weak 50 = .ok (.bipush 6, 2) := by decide +kernel
theorem d_Mo_weak_52 : decode b_Mo_weak 52 = .ok (.iload_n 1, 1) := by decide +kernel
theorem d_Mo_weak_53 : decode b_Mo_weak 53 = .ok (.imul, 1) := by decide +kernel
theorem d_Mo_weak_54 : decode b_Mo_weak 54 = .ok (.iload_n 2, 1) := by decide +kernel
theorem d_Mo_weak_55 : decode b_Mo_weak 55 = .ok (.iadd, 1) := by decide +kernel
theorem d_Mo_weak_56 : decode b_Mo_weak 56 = .ok (.iload_n 3, 1) := by decide +kernel
theorem d_Mo_weak_57 : decode b_Mo_weak 57 = .ok (.bastore, 1) := by decide +kernel
theorem d_Mo_weak_58 : decode b_Mo_weak 58 = .ok (.iload 4, 2) := by decide +kernel
theorem d_Mo_weak_60 : decode b_Mo_weak 60 = .ok (.iload_n 3, 1) := by decide +kernel
theorem d_Mo_weak_61 : decode b_Mo_weak 61 = .ok (.if_icmp .eq 7, 3) := by decide +kernel
theorem d_Mo_weak_64 : decode b_Mo_weak 64 = .ok (.iconst 1, 1) := by decide +kernel
theorem d_Mo_weak_65 : decode b_Mo_weak 65 = .ok (.goto 4, 3) := by decide +kernel
theorem d_Mo_weak_68 : decode b_Mo_weak 68 = .ok (.iconst 0, 1) := by decide +kernel
theorem d_Mo_weak_69 : decode b_Mo_weak 69 = .ok (.ireturn, 1) := by decide +kernel
theorem d_Mo_isObject_0 : decode b_Mo_isObject 0 = .ok (.iload_n 1, 1) := by decide +kernel
theorem d_Mo_isObject_1 : decode b_Mo_isObject 1 = .ok (.ifCond .lt 15, 3) := by decide +kernel
theorem d_Mo_isObject_4 : decode b_Mo_isObject 4 = .ok (.iload_n 1, 1) := by decide +kernel
theorem d_Mo_isObject_5 : decode b_Mo_isObject 5 = .ok (.aload_n 0, 1) := by decide +kernel
theorem d_Mo_isObject_6 : decode b_Mo_isObject 6 = .ok (.getfield 63, 3) := by decide +kernel
theorem d_Mo_isObject_9 : decode b_Mo_isObject 9 = .ok (.if_icmp .ge 7, 3) := by decide +kernel
theorem d_Mo_isObject_12 : decode b_Mo_isObject 12 = .ok (.iconst 1, 1) := by decide +kernel
theorem d_Mo_isObject_13 : decode b_Mo_isObject 13 = .ok (.goto 4, 3) := by decide +kernel
theorem d_Mo_isObject_16 : decode b_Mo_isObject 16 = .ok (.iconst 0, 1) := by decide +kernel
theorem d_Mo_isObject_17 : decode b_Mo_isObject 17 = .ok (.ireturn, 1) := by decide +kernel
theorem d_Mo_foam_0 : decode b_Mo_foam 0 = .ok (.iload_n 1, 1) := by decide +kernel
theorem d_Mo_foam_1 : decode b_Mo_foam 1 = .ok (.iconst 0, 1) := by decide +kernel
theorem d_Mo_foam_2 : decode b_Mo_foam 2 = .ok (.iconst 3, 1) := by decide +kernel
theorem d_Mo_foam_3 : decode b_Mo_foam 3 = .ok (.invokestatic 66, 3) := by decide +kernel
theorem d_Mo_foam_6 : decode b_Mo_foam 6 = .ok (.istore_n 3, 1) := by decide +kernel
theorem d_Mo_foam_7 : decode b_Mo_foam 7 = .ok (.iload_n 3, 1) := by decide +kernel
theorem d_Mo_foam_8 : decode b_Mo_foam 8 = .ok (.ifCond .eq 12, 3) := by decide +kernel
theorem d_Mo_foam_11 : decode b_Mo_foam 11 = .ok (.aload_n 0, 1) := by decide +kernel
theorem d_Mo_foam_12 : decode b_Mo_foam 12 = .ok (.getfield 20, 3) := by decide +kernel
theorem d_Mo_foam_15 : decode b_Mo_foam 15 = .ok (.iload_n 1, 1) := by decide +kernel
theorem d_Mo_foam_16 : decode b_Mo_foam 16 = .ok (.iaload, 1) := by decide +kernel
theorem d_Mo_foam_17 : decode b_Mo_foam 17 = .ok (.goto 4, 3) := by decide +kernel
theorem d_Mo_foam_20 : decode b_Mo_foam 20 = .ok (.iconst 0, 1) := by decide +kernel
theorem d_Mo_foam_21 : decode b_Mo_foam 21 = .ok (.istore 4, 2) := by decide +kernel
theorem d_Mo_foam_23 : decode b_Mo_foam 23 = .ok (.aload_n 0, 1) := by decide +kernel
theorem d_Mo_foam_24 : decode b_Mo_foam 24 = .ok (.iload_n 3, 1) := by decide +kernel
theorem d_Mo_foam_25 : decode b_Mo_foam 25 = .ok (.iload 4, 2) := by decide +kernel
theorem d_Mo_foam_27 : decode b_Mo_foam 27 = .ok (.bipush 8, 2) := by decide +kernel
theorem d_Mo_foam_29 : decode b_Mo_foam 29 = .ok (.if_icmp .ge 7, 3) := by decide +kernel
theorem d_Mo_foam_32 : decode b_Mo_foam 32 = .ok (.iconst 1, 1) := by decide +kernel
theorem d_Mo_foam_33 : decode b_Mo_foam 33 = .ok (.goto 4, 3) := by decide +kernel
theorem d_Mo_foam_36 : decode b_Mo_foam 36 = .ok (.iconst 0, 1) := by decide +kernel
theorem d_Mo_foam_37 : decode b_Mo_foam 37 = .ok (.iload_n 2, 1) := by decide +kernel
theorem d_Mo_foam_38 : decode b_Mo_foam 38 = .ok (.iconst 1, 1) := by decide +kernel
theorem d_Mo_foam_39 : decode b_Mo_foam 39 = .ok (.sipush 500, 3) := by decide +kernel
theorem d_Mo_foam_42 : decode b_Mo_foam 42 = .ok (.invokestatic 66, 3) := by decide +kernel
theorem d_Mo_foam_45 : decode b_Mo_foam 45 = .ok (.ifCond .eq 30, 3) := by decide +kernel
theorem d_Mo_foam_48 : decode b_Mo_foam 48 = .ok (.iload 4, 2) := by decide +kernel
theorem d_Mo_foam_50 : decode b_Mo_foam 50 = .ok (.ifCond .eq 21, 3) := by decide +kernel
theorem d_Mo_foam_53 : decode b_Mo_foam 53 = .ok (.iload_n 2, 1) := by decide +kernel
theorem d_Mo_foam_54 : decode b_Mo_foam 54 = .ok (.aload_n 0, 1) := by decide +kernel
theorem d_Mo_foam_55 : decode b_Mo_foam 55 = .ok (.getfield 23, 3) := by decide +kernel
theorem d_Mo_foam_58 : decode b_Mo_foam 58 = .ok (.bipush 8, 2) := by decide +kernel
theorem d_Mo_foam_60 : decode b_Mo_foam 60 = .ok (.iload_n 1, 1) := by decide +kernel
theorem d_Mo_foam_61 : decode b_Mo_foam 61 = .ok (.imul, 1) := by decide +kernel
theorem d_Mo_foam_62 : decode b_Mo_foam 62 = .ok (.iload 4, 2) := by decide +kernel
theorem d_Mo_foam_64 : decode b_Mo_foam 64 = .ok (.iadd, 1) := by decide +kernel
theorem d_Mo_foam_65 : decode b_Mo_foam 65 = .ok (.iconst 1, 1) := by decide +kernel
theorem d_Mo_foam_66 : decode b_Mo_foam 66 = .ok (.isub, 1) := by decide +kernel
theorem d_Mo_foam_67 : decode b_Mo_foam 67 = .ok (.iaload, 1) := by decide +kernel
theorem d_Mo_foam_68 : decode b_Mo_foam 68 = .ok (.if_icmp .le 7, 3) := by decide +kernel
theorem d_Mo_foam_71 : decode b_Mo_foam 71 = .ok (.iconst 1, 1) := by decide +kernel
theorem d_Mo_foam_72 : decode b_Mo_foam 72 = .ok (.goto 4, 3) := by decide +kernel
theorem d_Mo_foam_75 : decode b_Mo_foam 75 = .ok (.iconst 0, 1) := by decide +kernel
theorem d_Mo_foam_76 : decode b_Mo_foam 76 = .ok (.invokevirtual 71, 3) := by decide +kernel
theorem d_Mo_foam_79 : decode b_Mo_foam 79 = .ok (.ifCond .ne 5, 3) := by decide +kernel
theorem d_Mo_foam_82 : decode b_Mo_foam 82 = .ok (.iconst 0, 1) := by decide +kernel
theorem d_Mo_foam_83 : decode b_Mo_foam 83 = .ok (.ireturn, 1) := by decide +kernel
theorem d_Mo_foam_84 : decode b_Mo_foam 84 = .ok (.aload_n 0, 1) := by decide +kernel
theorem d_Mo_foam_85 : decode b_Mo_foam 85 = .ok (.getfield 23, 3) := by decide +kernel
theorem d_Mo_foam_88 : decode b_Mo_foam 88 = .ok (.bipush 8, 2) := by decide +kernel
theorem d_Mo_foam_90 : decode b_Mo_foam 90 = .ok (.iload_n 1, 1) := by decide +kernel
theorem d_Mo_foam_91 : decode b_Mo_foam 91 = .ok (.imul, 1) := by decide +kernel
theorem d_Mo_foam_92 : decode b_Mo_foam 92 = .ok (.iload 4, 2) := by decide +kernel
theorem d_Mo_foam_94 : decode b_Mo_foam 94 = .ok (.iadd, 1) := by decide +kernel
theorem d_Mo_foam_95 : decode b_Mo_foam 95 = .ok (.iload_n 2, 1) := by decide +kernel
theorem d_Mo_foam_96 : decode b_Mo_foam 96 = .ok (.iastore, 1) := by decide +kernel
theorem d_Mo_foam_97 : decode b_Mo_foam 97 = .ok (.aload_n 0, 1) := by decide +kernel
theorem d_Mo_foam_98 : decode b_Mo_foam 98 = .ok (.getfield 20, 3) := by decide +kernel
theorem d_Mo_foam_101 : decode b_Mo_foam 101 = .ok (.iload_n 1, 1) := by decide +kernel
theorem d_Mo_foam_102 : decode b_Mo_foam 102 = .ok (.dup2, 1) := by decide +kernel
theorem d_Mo_foam_103 : decode b_Mo_foam 103 = .ok (.iaload, 1) := by decide +kernel
theorem d_Mo_foam_104 : decode b_Mo_foam 104 = .ok (.iconst 1, 1) := by decide +kernel
theorem d_Mo_foam_105 : decode b_Mo_foam 105 = .ok (.iadd, 1) := by decide +kernel
theorem d_Mo_foam_106 : decode b_Mo_foam 106 = .ok (.iastore, 1) := by decide +kernel
theorem d_Mo_foam_107 : decode b_Mo_foam 107 = .ok (.iload 4, 2) := by decide +kernel
theorem d_Mo_foam_109 : decode b_Mo_foam 109 = .ok (.ireturn, 1) := by decide +kernel
theorem d_Mo_point_0 : decode b_Mo_point 0 = .ok (.aload_n 0, 1) := by decide +kernel
theorem d_Mo_point_1 : decode b_Mo_point 1 = .ok (.iload_n 1, 1) := by decide +kernel
theorem d_Mo_point_2 : decode b_Mo_point 2 = .ok (.iload_n 2, 1) := by decide +kernel
theorem d_Mo_point_3 : decode b_Mo_point 3 = .ok (.invokevirtual 79, 3) := by decide +kernel
theorem d_Mo_point_6 : decode b_Mo_point 6 = .ok (.istore 5, 2) := by decide +kernel
theorem d_Mo_point_8 : decode b_Mo_point 8 = .ok (.iload 5, 2) := by decide +kernel
theorem d_Mo_point_10 : decode b_Mo_point 10 = .ok (.ifCond .eq 12, 3) := by decide +kernel
theorem d_Mo_point_13 : decode b_Mo_point 13 = .ok (.bipush 8, 2) := by decide +kernel
theorem d_Mo_point_15 : decode b_Mo_point 15 = .ok (.iload_n 1, 1) := by decide +kernel
theorem d_Mo_point_16 : decode b_Mo_point 16 = .ok (.imul, 1) := by decide +kernel
theorem d_Mo_point_17 : decode b_Mo_point 17 = .ok (.iload_n 2, 1) := by decide +kernel
theorem d_Mo_point_18 : decode b_Mo_point 18 = .ok (.iadd, 1) := by decide +kernel
theorem d_Mo_point_19 : decode b_Mo_point 19 = .ok (.goto 4, 3) := by decide +kernel
theorem d_Mo_point_22 : decode b_Mo_point 22 = .ok (.iconst 0, 1) := by decide +kernel
theorem d_Mo_point_23 : decode b_Mo_point 23 = .ok (.istore 6, 2) := by decide +kernel
theorem d_Mo_point_25 : decode b_Mo_point 25 = .ok (.iload 5, 2) := by decide +kernel
theorem d_Mo_point_27 : decode b_Mo_point 27 = .ok (.ifCond .eq 13, 3) := by decide +kernel
theorem d_Mo_point_30 : decode b_Mo_point 30 = .ok (.aload_n 0, 1) := by decide +kernel
theorem d_Mo_point_31 : decode b_Mo_point 31 = .ok (.getfield 26, 3) := by decide +kernel
theorem d_Mo_point_34 : decode b_Mo_point 34 = .ok (.iload 6, 2) := by decide +kernel
theorem d_Mo_point_36 : decode b_Mo_point 36 = .ok (.iaload, 1) := by decide +kernel
theorem d_Mo_point_37 : decode b_Mo_point 37 = .ok (.goto 4, 3) := by decide +kernel
theorem d_Mo_point_40 : decode b_Mo_point 40 = .ok (.iconst 0, 1) := by decide +kernel
theorem d_Mo_point_41 : decode b_Mo_point 41 = .ok (.istore 7, 2) := by decide +kernel
theorem d_Mo_point_43 : decode b_Mo_point 43 = .ok (.iload 7, 2) := by decide +kernel
theorem d_Mo_point_45 : decode b_Mo_point 45 = .ok (.ifCond .eq 22, 3) := by decide +kernel
theorem d_Mo_point_48 : decode b_Mo_point 48 = .ok (.iload_n 3, 1) := by decide +kernel
theorem d_Mo_point_49 : decode b_Mo_point 49 = .ok (.aload_n 0, 1) := by decide +kernel
theorem d_Mo_point_50 : decode b_Mo_point 50 = .ok (.getfield 29, 3) := by decide +kernel
theorem d_Mo_point_53 : decode b_Mo_point 53 = .ok (.bipush 6, 2) := by decide +kernel
theorem d_Mo_point_55 : decode b_Mo_point 55 = .ok (.iload 6, 2) := by decide +kernel
theorem d_Mo_point_57 : decode b_Mo_point 57 = .ok (.imul, 1) := by decide +kernel
theorem d_Mo_point_58 : decode b_Mo_point 58 = .ok (.iload 7, 2) := by decide +kernel
theorem d_Mo_point_60 : decode b_Mo_point 60 = .ok (.iadd, 1) := by decide +kernel
theorem d_Mo_point_61 : decode b_Mo_point 61 = .ok (.iconst 1, 1) := by decide +kernel
theorem d_Mo_point_62 : decode b_Mo_point 62 = .ok (.isub, 1) := by decide +kernel
theorem d_Mo_point_63 : decode b_Mo_point 63 = .ok (.iaload, 1) := by decide +kernel
theorem d_Mo_point_64 : decode b_Mo_point 64 = .ok (.if_icmp .le 7, 3) := by decide +kernel
theorem d_Mo_point_67 : decode b_Mo_point 67 = .ok (.iconst 1, 1) := by decide +kernel
theorem d_Mo_point_68 : decode b_Mo_point 68 = .ok (.goto 4, 3) := by decide +kernel
theorem d_Mo_point_71 : decode b_Mo_point 71 = .ok (.iconst 0, 1) := by decide +kernel
theorem d_Mo_point_72 : decode b_Mo_point 72 = .ok (.istore 8, 2) := by decide +kernel
theorem d_Mo_point_74 : decode b_Mo_point 74 = .ok (.aload_n 0, 1) := by decide +kernel
theorem d_Mo_point_75 : decode b_Mo_point 75 = .ok (.iload 5, 2) := by decide +kernel
theorem d_Mo_point_77 : decode b_Mo_point 77 = .ok (.iload 7, 2) := by decide +kernel
theorem d_Mo_point_79 : decode b_Mo_point 79 = .ok (.bipush 6, 2) := by decide +kernel
theorem d_Mo_point_81 : decode b_Mo_point 81 = .ok (.if_icmp .ge 7, 3) := by decide +kernel
theorem d_Mo_point_84 : decode b_Mo_point 84 = .ok (.iconst 1, 1) := by decide +kernel
theorem d_Mo_point_85 : decode b_Mo_point 85 = .ok (.goto 4, 3) := by decide +kernel
theorem d_Mo_point_88 : decode b_Mo_point 88 = .ok (.iconst 0, 1) := by decide +kernel
theorem d_Mo_point_89 : decode b_Mo_point 89 = .ok (.iload_n 3, 1) := by decide +kernel
theorem d_Mo_point_90 : decode b_Mo_point 90 = .ok (.iconst 0, 1) := by decide +kernel
theorem d_Mo_point_91 : decode b_Mo_point 91 = .ok (.sipush 10000, 3) := by decide +kernel
theorem d_Mo_point_94 : decode b_Mo_point 94 = .ok (.invokestatic 66, 3) := by decide +kernel
theorem d_Mo_point_97 : decode b_Mo_point 97 = .ok (.ifCond .eq 24, 3) := by decide +kernel
theorem d_Mo_point_100 : decode b_Mo_point 100 = .ok (.iload 4, 2) := by decide +kernel
theorem d_Mo_point_102 : decode b_Mo_point 102 = .ok (.iconst 1, 1) := by decide +kernel
theorem d_Mo_point_103 : decode b_Mo_point 103 = .ok (.sipush 1000, 3) := by decide +kernel
theorem d_Mo_point_106 : decode b_Mo_point 106 = .ok (.invokestatic 66, 3) := by decide +kernel
theorem d_Mo_point_109 : decode b_Mo_point 109 = .ok (.ifCond .eq 12, 3) := by decide +kernel
theorem d_Mo_point_112 : decode b_Mo_point 112 = .ok (.iload 8, 2) := by decide +kernel
theorem d_Mo_point_114 : decode b_Mo_point 114 = .ok (.ifCond .eq 7, 3) := by decide +kernel
theorem d_Mo_point_117 : decode b_Mo_point 117 = .ok (.iconst 1, 1) := by decide +kernel
theorem d_Mo_point_118 : decode b_Mo_point 118 = .ok (.goto 4, 3) := by decide +kernel
theorem d_Mo_point_121 : decode b_Mo_point 121 = .ok (.iconst 0, 1) := by decide +kernel
theorem d_Mo_point_122 : decode b_Mo_point 122 = .ok (.invokevirtual 71, 3) := by decide +kernel
theorem d_Mo_point_125 : decode b_Mo_point 125 = .ok (.ifCond .ne 5, 3) := by decide +kernel
theorem d_Mo_point_128 : decode b_Mo_point 128 = .ok (.iconst 0, 1) := by decide +kernel
theorem d_Mo_point_129 : decode b_Mo_point 129 = .ok (.ireturn, 1) := by decide +kernel
theorem d_Mo_point_130 : decode b_Mo_point 130 = .ok (.aload_n 0, 1) := by decide +kernel
theorem d_Mo_point_131 : decode b_Mo_point 131 = .ok (.getfield 29, 3) := by decide +kernel
theorem d_Mo_point_134 : decode b_Mo_point 134 = .ok (.bipush 6, 2) := by decide +kernel
theorem d_Mo_point_136 : decode b_Mo_point 136 = .ok (.iload 6, 2) := by decide +kernel
theorem d_Mo_point_138 : decode b_Mo_point 138 = .ok (.imul, 1) := by decide +kernel
theorem d_Mo_point_139 : decode b_Mo_point 139 = .ok (.iload 7, 2) := by decide +kernel
theorem d_Mo_point_141 : decode b_Mo_point 141 = .ok (.iadd, 1) := by decide +kernel
theorem d_Mo_point_142 : decode b_Mo_point 142 = .ok (.iload_n 3, 1) := by decide +kernel
theorem d_Mo_point_143 : decode b_Mo_point 143 = .ok (.iastore, 1) := by decide +kernel
theorem d_Mo_point_144 : decode b_Mo_point 144 = .ok (.aload_n 0, 1) := by decide +kernel
theorem d_Mo_point_145 : decode b_Mo_point 145 = .ok (.getfield 32, 3) := by decide +kernel
theorem d_Mo_point_148 : decode b_Mo_point 148 = .ok (.bipush 6, 2) := by decide +kernel
theorem d_Mo_point_150 : decode b_Mo_point 150 = .ok (.iload 6, 2) := by decide +kernel
theorem d_Mo_point_152 : decode b_Mo_point 152 = .ok (.imul, 1) := by decide +kernel
theorem d_Mo_point_153 : decode b_Mo_point 153 = .ok (.iload 7, 2) := by decide +kernel
theorem d_Mo_point_155 : decode b_Mo_point 155 = .ok (.iadd, 1) := by decide +kernel
theorem d_Mo_point_156 : decode b_Mo_point 156 = .ok (.iload 4, 2) := by decide +kernel
theorem d_Mo_point_158 : decode b_Mo_point 158 = .ok (.iastore, 1) := by decide +kernel
theorem d_Mo_point_159 : decode b_Mo_point 159 = .ok (.aload_n 0, 1) := by decide +kernel
theorem d_Mo_point_160 : decode b_Mo_point 160 = .ok (.getfield 26, 3) := by decide +kernel
theorem d_Mo_point_163 : decode b_Mo_point 163 = .ok (.iload 6, 2) := by decide +kernel
theorem d_Mo_point_165 : decode b_Mo_point 165 = .ok (.dup2, 1) := by decide +kernel
theorem d_Mo_point_166 : decode b_Mo_point 166 = .ok (.iaload, 1) := by decide +kernel
theorem d_Mo_point_167 : decode b_Mo_point 167 = .ok (.iconst 1, 1) := by decide +kernel
theorem d_Mo_point_168 : decode b_Mo_point 168 = .ok (.iadd, 1) := by decide +kernel
theorem d_Mo_point_169 : decode b_Mo_point 169 = .ok (.iastore, 1) := by decide +kernel
theorem d_Mo_point_170 : decode b_Mo_point 170 = .ok (.iload 7, 2) := by decide +kernel
theorem d_Mo_point_172 : decode b_Mo_point 172 = .ok (.iconst 1, 1) := by decide +kernel
theorem d_Mo_point_173 : decode b_Mo_point 173 = .ok (.iadd, 1) := by decide +kernel
theorem d_Mo_point_174 : decode b_Mo_point 174 = .ok (.ireturn, 1) := by decide +kernel
theorem d_Mo_isRow_0 : decode b_Mo_isRow 0 = .ok (.iload_n 1, 1) := by decide +kernel
theorem d_Mo_isRow_1 : decode b_Mo_isRow 1 = .ok (.iconst 0, 1) := by decide +kernel
theorem d_Mo_isRow_2 : decode b_Mo_isRow 2 = .ok (.iconst 3, 1) := by decide +kernel
theorem d_Mo_isRow_3 : decode b_Mo_isRow 3 = .ok (.invokestatic 66, 3) := by decide +kernel
theorem d_Mo_isRow_6 : decode b_Mo_isRow 6 = .ok (.ifCond .eq 21, 3) := by decide +kernel
theorem d_Mo_isRow_9 : decode b_Mo_isRow 9 = .ok (.iload_n 2, 1) := by decide +kernel
theorem d_Mo_isRow_10 : decode b_Mo_isRow 10 = .ok (.ifCond .lt 17, 3) := by decide +kernel
theorem d_Mo_isRow_13 : decode b_Mo_isRow 13 = .ok (.iload_n 2, 1) := by decide +kernel
theorem d_Mo_isRow_14 : decode b_Mo_isRow 14 = .ok (.aload_n 0, 1) := by decide +kernel
theorem d_Mo_isRow_15 : decode b_Mo_isRow 15 = .ok (.getfield 20, 3) := by decide +kernel
theorem d_Mo_isRow_18 : decode b_Mo_isRow 18 = .ok (.iload_n 1, 1) := by decide +kernel
theorem d_Mo_isRow_19 : decode b_Mo_isRow 19 = .ok (.iaload, 1) := by decide +kernel
theorem d_Mo_isRow_20 : decode b_Mo_isRow 20 = .ok (.if_icmp .ge 7, 3) := by decide +kernel
theorem d_Mo_isRow_23 : decode b_Mo_isRow 23 = .ok (.iconst 1, 1) := by decide +kernel
theorem d_Mo_isRow_24 : decode b_Mo_isRow 24 = .ok (.goto 4, 3) := by decide +kernel
theorem d_Mo_isRow_27 : decode b_Mo_isRow 27 = .ok (.iconst 0, 1) := by decide +kernel
theorem d_Mo_isRow_28 : decode b_Mo_isRow 28 = .ok (.ireturn, 1) := by decide +kernel
theorem d_Mo_value_0 : decode b_Mo_value 0 = .ok (.aload_n 0, 1) := by decide +kernel
theorem d_Mo_value_1 : decode b_Mo_value 1 = .ok (.aload_n 0, 1) := by decide +kernel
theorem d_Mo_value_2 : decode b_Mo_value 2 = .ok (.iload_n 1, 1) := by decide +kernel
theorem d_Mo_value_3 : decode b_Mo_value 3 = .ok (.iload_n 2, 1) := by decide +kernel
theorem d_Mo_value_4 : decode b_Mo_value 4 = .ok (.invokevirtual 79, 3) := by decide +kernel
theorem d_Mo_value_7 : decode b_Mo_value 7 = .ok (.iconst 1, 1) := by decide +kernel
theorem d_Mo_value_8 : decode b_Mo_value 8 = .ok (.iconst 1, 1) := by decide +kernel
theorem d_Mo_value_9 : decode b_Mo_value 9 = .ok (.invokevirtual 71, 3) := by decide +kernel
theorem d_Mo_value_12 : decode b_Mo_value 12 = .ok (.ifCond .eq 17, 3) := by decide +kernel
theorem d_Mo_value_15 : decode b_Mo_value 15 = .ok (.aload_n 0, 1) := by decide +kernel
theorem d_Mo_value_16 : decode b_Mo_value 16 = .ok (.bipush 8, 2) := by decide +kernel
theorem d_Mo_value_18 : decode b_Mo_value 18 = .ok (.iload_n 1, 1) := by decide +kernel
theorem d_Mo_value_19 : decode b_Mo_value 19 = .ok (.imul, 1) := by decide +kernel
theorem d_Mo_value_20 : decode b_Mo_value 20 = .ok (.iload_n 2, 1) := by decide +kernel
theorem d_Mo_value_21 : decode b_Mo_value 21 = .ok (.iadd, 1) := by decide +kernel
theorem d_Mo_value_22 : decode b_Mo_value 22 = .ok (.iload_n 3, 1) := by decide +kernel
theorem d_Mo_value_23 : decode b_Mo_value 23 = .ok (.invokevirtual 87, 3) := by decide +kernel
theorem d_Mo_value_26 : decode b_Mo_value 26 = .ok (.goto 4, 3) := by decide +kernel
theorem d_Mo_value_29 : decode b_Mo_value 29 = .ok (.iconst 0, 1) := by decide +kernel
theorem d_Mo_value_30 : decode b_Mo_value 30 = .ok (.ireturn, 1) := by decide +kernel
theorem d_Mo_valueOf_0 : decode b_Mo_valueOf 0 = .ok (.bipush 6, 2) := by decide +kernel
theorem d_Mo_valueOf_2 : decode b_Mo_valueOf 2 = .ok (.iload_n 1, 1) := by decide +kernel
theorem d_Mo_valueOf_3 : decode b_Mo_valueOf 3 = .ok (.imul, 1) := by decide +kernel
theorem d_Mo_valueOf_4 : decode b_Mo_valueOf 4 = .ok (.istore_n 3, 1) := by decide +kernel
theorem d_Mo_valueOf_5 : decode b_Mo_valueOf 5 = .ok (.iload_n 3, 1) := by decide +kernel
theorem d_Mo_valueOf_6 : decode b_Mo_valueOf 6 = .ok (.bipush 6, 2) := by decide +kernel
theorem d_Mo_valueOf_8 : decode b_Mo_valueOf 8 = .ok (.iload_n 1, 1) := by decide +kernel
theorem d_Mo_valueOf_9 : decode b_Mo_valueOf 9 = .ok (.imul, 1) := by decide +kernel
theorem d_Mo_valueOf_10 : decode b_Mo_valueOf 10 = .ok (.aload_n 0, 1) := by decide +kernel
theorem d_Mo_valueOf_11 : decode b_Mo_valueOf 11 = .ok (.getfield 26, 3) := by decide +kernel
theorem d_Mo_valueOf_14 : decode b_Mo_valueOf 14 = .ok (.iload_n 1, 1) := by decide +kernel
theorem d_Mo_valueOf_15 : decode b_Mo_valueOf 15 = .ok (.iaload, 1) := by decide +kernel
theorem d_Mo_valueOf_16 : decode b_Mo_valueOf 16 = .ok (.iadd, 1) := by decide +kernel
theorem d_Mo_valueOf_17 : decode b_Mo_valueOf 17 = .ok (.if_icmp .ge 115, 3) := by decide +kernel
theorem d_Mo_valueOf_20 : decode b_Mo_valueOf 20 = .ok (.aload_n 0, 1) := by decide +kernel
theorem d_Mo_valueOf_21 : decode b_Mo_valueOf 21 = .ok (.getfield 29, 3) := by decide +kernel
theorem d_Mo_valueOf_24 : decode b_Mo_valueOf 24 = .ok (.iload_n 3, 1) := by decide +kernel
theorem d_Mo_valueOf_25 : decode b_Mo_valueOf 25 = .ok (.iaload, 1) := by decide +kernel
theorem d_Mo_valueOf_26 : decode b_Mo_valueOf 26 = .ok (.iload_n 2, 1) := by decide +kernel
theorem d_Mo_valueOf_27 : decode b_Mo_valueOf 27 = .ok (.if_icmp .ne 10, 3) := by decide +kernel
theorem d_Mo_valueOf_30 : decode b_Mo_valueOf 30 = .ok (.aload_n 0, 1) := by decide +kernel
theorem d_Mo_valueOf_31 : decode b_Mo_valueOf 31 = .ok (.getfield 32, 3) := by decide +kernel
theorem d_Mo_valueOf_34 : decode b_Mo_valueOf 34 = .ok (.iload_n 3, 1) := by decide +kernel
theorem d_Mo_valueOf_35 : decode b_Mo_valueOf 35 = .ok (.iaload, 1) := by decide +kernel
theorem d_Mo_valueOf_36 : decode b_Mo_valueOf 36 = .ok (.ireturn, 1) := by decide +kernel
theorem d_Mo_valueOf_37 : decode b_Mo_valueOf 37 = .ok (.iload_n 3, 1) := by decide +kernel
theorem d_Mo_valueOf_38 : decode b_Mo_valueOf 38 = .ok (.iconst 1, 1) := by decide +kernel
theorem d_Mo_valueOf_39 : decode b_Mo_valueOf 39 = .ok (.iadd, 1) := by decide +kernel
theorem d_Mo_valueOf_40 : decode b_Mo_valueOf 40 = .ok (.bipush 6, 2) := by decide +kernel
theorem d_Mo_valueOf_42 : decode b_Mo_valueOf 42 = .ok (.iload_n 1, 1) := by decide +kernel
theorem d_Mo_valueOf_43 : decode b_Mo_valueOf 43 = .ok (.imul, 1) := by decide +kernel
theorem d_Mo_valueOf_44 : decode b_Mo_valueOf 44 = .ok (.aload_n 0, 1) := by decide +kernel
theorem d_Mo_valueOf_45 : decode b_Mo_valueOf 45 = .ok (.getfield 26, 3) := by decide +kernel
theorem d_Mo_valueOf_48 : decode b_Mo_valueOf 48 = .ok (.iload_n 1, 1) := by decide +kernel
theorem d_Mo_valueOf_49 : decode b_Mo_valueOf 49 = .ok (.iaload, 1) := by decide +kernel
theorem d_Mo_valueOf_50 : decode b_Mo_valueOf 50 = .ok (.iadd, 1) := by decide +kernel
theorem d_Mo_valueOf_51 : decode b_Mo_valueOf 51 = .ok (.if_icmp .ge 75, 3) := by decide +kernel
theorem d_Mo_valueOf_54 : decode b_Mo_valueOf 54 = .ok (.aload_n 0, 1) := by decide +kernel
theorem d_Mo_valueOf_55 : decode b_Mo_valueOf 55 = .ok (.getfield 29, 3) := by decide +kernel
theorem d_Mo_valueOf_58 : decode b_Mo_valueOf 58 = .ok (.iload_n 3, 1) := by decide +kernel
theorem d_Mo_valueOf_59 : decode b_Mo_valueOf 59 = .ok (.iaload, 1) := by decide +kernel
theorem d_Mo_valueOf_60 : decode b_Mo_valueOf 60 = .ok (.iload_n 2, 1) := by decide +kernel
theorem d_Mo_valueOf_61 : decode b_Mo_valueOf 61 = .ok (.if_icmp .ge 65, 3) := by decide +kernel
theorem d_Mo_valueOf_64 : decode b_Mo_valueOf 64 = .ok (.iload_n 2, 1) := by decide +kernel
theorem d_Mo_valueOf_65 : decode b_Mo_valueOf 65 = .ok (.aload_n 0, 1) := by decide +kernel
theorem d_Mo_valueOf_66 : decode b_Mo_valueOf 66 = .ok (.getfield 29, 3) := by decide +kernel
theorem d_Mo_valueOf_69 : decode b_Mo_valueOf 69 = .ok (.iload_n 3, 1) := by decide +kernel
theorem d_Mo_valueOf_70 : decode b_Mo_valueOf 70 = .ok (.iconst 1, 1) := by decide +kernel
theorem d_Mo_valueOf_71 : decode b_Mo_valueOf 71 = .ok (.iadd, 1) := by decide +kernel
theorem d_Mo_valueOf_72 : decode b_Mo_valueOf 72 = .ok (.iaload, 1) := by decide +kernel
theorem d_Mo_valueOf_73 : decode b_Mo_valueOf 73 = .ok (.if_icmp .ge 53, 3) := by decide +kernel
theorem d_Mo_valueOf_76 : decode b_Mo_valueOf 76 = .ok (.aload_n 0, 1) := by decide +kernel
theorem d_Mo_valueOf_77 : decode b_Mo_valueOf 77 = .ok (.getfield 32, 3) := by decide +kernel
theorem d_Mo_valueOf_80 : decode b_Mo_valueOf 80 = .ok (.iload_n 3, 1) := by decide +kernel
theorem d_Mo_valueOf_81 : decode b_Mo_valueOf 81 = .ok (.iaload, 1) := by decide +kernel
theorem d_Mo_valueOf_82 : decode b_Mo_valueOf 82 = .ok (.aload_n 0, 1) := by decide +kernel
theorem d_Mo_valueOf_83 : decode b_Mo_valueOf 83 = .ok (.getfield 32, 3) := by decide +kernel
theorem d_Mo_valueOf_86 : decode b_Mo_valueOf 86 = .ok (.iload_n 3, 1) := by decide +kernel
theorem d_Mo_valueOf_87 : decode b_Mo_valueOf 87 = .ok (.iconst 1, 1) := by decide +kernel
theorem d_Mo_valueOf_88 : decode b_Mo_valueOf 88 = .ok (.iadd, 1) := by decide +kernel
theorem d_Mo_valueOf_89 : decode b_Mo_valueOf 89 = .ok (.iaload, 1) := by decide +kernel
theorem d_Mo_valueOf_90 : decode b_Mo_valueOf 90 = .ok (.aload_n 0, 1) := by decide +kernel
theorem d_Mo_valueOf_91 : decode b_Mo_valueOf 91 = .ok (.getfield 32, 3) := by decide +kernel
theorem d_Mo_valueOf_94 : decode b_Mo_valueOf 94 = .ok (.iload_n 3, 1) := by decide +kernel
theorem d_Mo_valueOf_95 : decode b_Mo_valueOf 95 = .ok (.iaload, 1) := by decide +kernel
theorem d_Mo_valueOf_96 : decode b_Mo_valueOf 96 = .ok (.isub, 1) := by decide +kernel
theorem d_Mo_valueOf_97 : decode b_Mo_valueOf 97 = .ok (.iload_n 2, 1) := by decide +kernel
theorem d_Mo_valueOf_98 : decode b_Mo_valueOf 98 = .ok (.aload_n 0, 1) := by decide +kernel
theorem d_Mo_valueOf_99 : decode b_Mo_valueOf 99 = .ok (.getfield 29, 3) := by decide +kernel
theorem d_Mo_valueOf_102 : decode b_Mo_valueOf 102 = .ok (.iload_n 3, 1) := by decide +kernel
theorem d_Mo_valueOf_103 : decode b_Mo_valueOf 103 = .ok (.iaload, 1) := by decide +kernel
theorem d_Mo_valueOf_104 : decode b_Mo_valueOf 104 = .ok (.isub, 1) := by decide +kernel
theorem d_Mo_valueOf_105 : decode b_Mo_valueOf 105 = .ok (.imul, 1) := by decide +kernel
theorem d_Mo_valueOf_106 : decode b_Mo_valueOf 106 = .ok (.aload_n 0, 1) := by decide +kernel
theorem d_Mo_valueOf_107 : decode b_Mo_valueOf 107 = .ok (.getfield 29, 3) := by decide +kernel
theorem d_Mo_valueOf_110 : decode b_Mo_valueOf 110 = .ok (.iload_n 3, 1) := by decide +kernel
theorem d_Mo_valueOf_111 : decode b_Mo_valueOf 111 = .ok (.iconst 1, 1) := by decide +kernel
theorem d_Mo_valueOf_112 : decode b_Mo_valueOf 112 = .ok (.iadd, 1) := by decide +kernel
theorem d_Mo_valueOf_113 : decode b_Mo_valueOf 113 = .ok (.iaload, 1) := by decide +kernel
theorem d_Mo_valueOf_114 : decode b_Mo_valueOf 114 = .ok (.aload_n 0, 1) := by decide +kernel
theorem d_Mo_valueOf_115 : decode b_Mo_valueOf 115 = .ok (.getfield 29, 3) := by decide +kernel
theorem d_Mo_valueOf_118 : decode b_Mo_valueOf 118 = .ok (.iload_n 3, 1) := by decide +kernel
theorem d_Mo_valueOf_119 : decode b_Mo_valueOf 119 = .ok (.iaload, 1) := by decide +kernel
theorem d_Mo_valueOf_120 : decode b_Mo_valueOf 120 = .ok (.isub, 1) := by decide +kernel
theorem d_Mo_valueOf_121 : decode b_Mo_valueOf 121 = .ok (.invokestatic 83, 3) := by decide +kernel
theorem d_Mo_valueOf_124 : decode b_Mo_valueOf 124 = .ok (.iadd, 1) := by decide +kernel
theorem d_Mo_valueOf_125 : decode b_Mo_valueOf 125 = .ok (.ireturn, 1) := by decide +kernel
theorem d_Mo_valueOf_126 : decode b_Mo_valueOf 126 = .ok (.iinc 3 1, 3) := by decide +kernel
theorem d_Mo_valueOf_129 : decode b_Mo_valueOf 129 = .ok (.goto (-124), 3) := by decide +kernel
theorem d_Mo_valueOf_132 : decode b_Mo_valueOf 132 = .ok (.iconst (-1), 1) := by decide +kernel
theorem d_Mo_valueOf_133 : decode b_Mo_valueOf 133 = .ok (.ireturn, 1) := by decide +kernel
theorem d_Mo_up_0 : decode b_Mo_up 0 = .ok (.iload_n 0, 1) := by decide +kernel
theorem d_Mo_up_1 : decode b_Mo_up 1 = .ok (.iload_n 1, 1) := by decide +kernel
theorem d_Mo_up_2 : decode b_Mo_up 2 = .ok (.idiv, 1) := by decide +kernel
theorem d_Mo_up_3 : decode b_Mo_up 3 = .ok (.istore_n 2, 1) := by decide +kernel
theorem d_Mo_up_4 : decode b_Mo_up 4 = .ok (.iload_n 2, 1) := by decide +kernel
theorem d_Mo_up_5 : decode b_Mo_up 5 = .ok (.iload_n 1, 1) := by decide +kernel
theorem d_Mo_up_6 : decode b_Mo_up 6 = .ok (.imul, 1) := by decide +kernel
theorem d_Mo_up_7 : decode b_Mo_up 7 = .ok (.iload_n 0, 1) := by decide +kernel
theorem d_Mo_up_8 : decode b_Mo_up 8 = .ok (.if_icmp .ge 9, 3) := by decide +kernel
theorem d_Mo_up_11 : decode b_Mo_up 11 = .ok (.iload_n 2, 1) := by decide +kernel
theorem d_Mo_up_12 : decode b_Mo_up 12 = .ok (.iconst 1, 1) := by decide +kernel
theorem d_Mo_up_13 : decode b_Mo_up 13 = .ok (.iadd, 1) := by decide +kernel
theorem d_Mo_up_14 : decode b_Mo_up 14 = .ok (.goto 4, 3) := by decide +kernel
theorem d_Mo_up_17 : decode b_Mo_up 17 = .ok (.iload_n 2, 1) := by decide +kernel
theorem d_Mo_up_18 : decode b_Mo_up 18 = .ok (.ireturn, 1) := by decide +kernel
theorem d_Mo_thickness_0 : decode b_Mo_thickness 0 = .ok (.aload_n 0, 1) := by decide +kernel
theorem d_Mo_thickness_1 : decode b_Mo_thickness 1 = .ok (.iload_n 1, 1) := by decide +kernel
theorem d_Mo_thickness_2 : decode b_Mo_thickness 2 = .ok (.iconst 0, 1) := by decide +kernel
theorem d_Mo_thickness_3 : decode b_Mo_thickness 3 = .ok (.iconst 3, 1) := by decide +kernel
theorem d_Mo_thickness_4 : decode b_Mo_thickness 4 = .ok (.invokestatic 66, 3) := by decide +kernel
theorem d_Mo_thickness_7 : decode b_Mo_thickness 7 = .ok (.iconst 1, 1) := by decide +kernel
theorem d_Mo_thickness_8 : decode b_Mo_thickness 8 = .ok (.iconst 1, 1) := by decide +kernel
theorem d_Mo_thickness_9 : decode b_Mo_thickness 9 = .ok (.invokevirtual 71, 3) := by decide +kernel
theorem d_Mo_thickness_12 : decode b_Mo_thickness 12 = .ok (.ifCond .ne 5, 3) := by decide +kernel
theorem d_Mo_thickness_15 : decode b_Mo_thickness 15 = .ok (.iconst 0, 1) := by decide +kernel
theorem d_Mo_thickness_16 : decode b_Mo_thickness 16 = .ok (.ireturn, 1) := by decide +kernel
theorem d_Mo_thickness_17 : decode b_Mo_thickness 17 = .ok (.iconst 0, 1) := by decide +kernel
theorem d_Mo_thickness_18 : decode b_Mo_thickness 18 = .ok (.istore 4, 2) := by decide +kernel
theorem d_Mo_thickness_20 : decode b_Mo_thickness 20 = .ok (.aload_n 0, 1) := by decide +kernel
theorem d_Mo_thickness_21 : decode b_Mo_thickness 21 = .ok (.getfield 20, 3) := by decide +kernel
theorem d_Mo_thickness_24 : decode b_Mo_thickness 24 = .ok (.iload_n 1, 1) := by decide +kernel
theorem d_Mo_thickness_25 : decode b_Mo_thickness 25 = .ok (.iaload, 1) := by decide +kernel
theorem d_Mo_thickness_26 : decode b_Mo_thickness 26 = .ok (.istore 5, 2) := by decide +kernel
theorem d_Mo_thickness_28 : decode b_Mo_thickness 28 = .ok (.iload 4, 2) := by decide +kernel
theorem d_Mo_thickness_30 : decode b_Mo_thickness 30 = .ok (.iload 5, 2) := by decide +kernel
theorem d_Mo_thickness_32 : decode b_Mo_thickness 32 = .ok (.if_icmp .ge 78, 3) := by decide +kernel
theorem d_Mo_thickness_35 : decode b_Mo_thickness 35 = .ok (.iload 4, 2) := by decide +kernel
theorem d_Mo_thickness_37 : decode b_Mo_thickness 37 = .ok (.iload 5, 2) := by decide +kernel
theorem d_Mo_thickness_39 : decode b_Mo_thickness 39 = .ok (.iadd, 1) := by decide +kernel
theorem d_Mo_thickness_40 : decode b_Mo_thickness 40 = .ok (.iconst 2, 1) := by decide +kernel
theorem d_Mo_thickness_41 : decode b_Mo_thickness 41 = .ok (.idiv, 1) := by decide +kernel
theorem d_Mo_thickness_42 : decode b_Mo_thickness 42 = .ok (.istore 6, 2) := by decide +kernel
theorem d_Mo_thickness_44 : decode b_Mo_thickness 44 = .ok (.aload_n 0, 1) := by decide +kernel
theorem d_Mo_thickness_45 : decode b_Mo_thickness 45 = .ok (.bipush 8, 2) := by decide +kernel
theorem d_Mo_thickness_47 : decode b_Mo_thickness 47 = .ok (.iload_n 1, 1) := by decide +kernel
theorem d_Mo_thickness_48 : decode b_Mo_thickness 48 = .ok (.imul, 1) := by decide +kernel
theorem d_Mo_thickness_49 : decode b_Mo_thickness 49 = .ok (.iload 6, 2) := by decide +kernel
theorem d_Mo_thickness_51 : decode b_Mo_thickness 51 = .ok (.iadd, 1) := by decide +kernel
theorem d_Mo_thickness_52 : decode b_Mo_thickness 52 = .ok (.iload_n 2, 1) := by decide +kernel
theorem d_Mo_thickness_53 : decode b_Mo_thickness 53 = .ok (.invokevirtual 87, 3) := by decide +kernel
theorem d_Mo_thickness_56 : decode b_Mo_thickness 56 = .ok (.istore 7, 2) := by decide +kernel
theorem d_Mo_thickness_58 : decode b_Mo_thickness 58 = .ok (.iload 7, 2) := by decide +kernel
theorem d_Mo_thickness_60 : decode b_Mo_thickness 60 = .ok (.iconst (-1), 1) := by decide +kernel
theorem d_Mo_thickness_61 : decode b_Mo_thickness 61 = .ok (.if_icmp .eq 13, 3) := by decide +kernel
theorem d_Mo_thickness_64 : decode b_Mo_thickness 64 = .ok (.iload 7, 2) := by decide +kernel
theorem d_Mo_thickness_66 : decode b_Mo_thickness 66 = .ok (.iload_n 3, 1) := by decide +kernel
theorem d_Mo_thickness_67 : decode b_Mo_thickness 67 = .ok (.if_icmp .gt 7, 3) := by decide +kernel
theorem d_Mo_thickness_70 : decode b_Mo_thickness 70 = .ok (.iconst 1, 1) := by decide +kernel
theorem d_Mo_thickness_71 : decode b_Mo_thickness 71 = .ok (.goto 4, 3) := by decide +kernel
theorem d_Mo_thickness_74 : decode b_Mo_thickness 74 = .ok (.iconst 0, 1) := by decide +kernel
theorem d_Mo_thickness_75 : decode b_Mo_thickness 75 = .ok (.istore 8, 2) := by decide +kernel
theorem d_Mo_thickness_77 : decode b_Mo_thickness 77 = .ok (.iload 8, 2) := by decide +kernel
theorem d_Mo_thickness_79 : decode b_Mo_thickness 79 = .ok (.ifCond .eq 8, 3) := by decide +kernel
theorem d_Mo_thickness_82 : decode b_Mo_thickness 82 = .ok (.iload 6, 2) := by decide +kernel
theorem d_Mo_thickness_84 : decode b_Mo_thickness 84 = .ok (.goto 5, 3) := by decide +kernel
theorem d_Mo_thickness_87 : decode b_Mo_thickness 87 = .ok (.iload 5, 2) := by decide +kernel
theorem d_Mo_thickness_89 : decode b_Mo_thickness 89 = .ok (.istore 5, 2) := by decide +kernel
theorem d_Mo_thickness_91 : decode b_Mo_thickness 91 = .ok (.iload 8, 2) := by decide +kernel
theorem d_Mo_thickness_93 : decode b_Mo_thickness 93 = .ok (.ifCond .eq 8, 3) := by decide +kernel
theorem d_Mo_thickness_96 : decode b_Mo_thickness 96 = .ok (.iload 4, 2) := by decide +kernel
theorem d_Mo_thickness_98 : decode b_Mo_thickness 98 = .ok (.goto 7, 3) := by decide +kernel
theorem d_Mo_thickness_101 : decode b_Mo_thickness 101 = .ok (.iload 6, 2) := by decide +kernel
theorem d_Mo_thickness_103 : decode b_Mo_thickness 103 = .ok (.iconst 1, 1) := by decide +kernel
theorem d_Mo_thickness_104 : decode b_Mo_thickness 104 = .ok (.iadd, 1) := by decide +kernel
theorem d_Mo_thickness_105 : decode b_Mo_thickness 105 = .ok (.istore 4, 2) := by decide +kernel
theorem d_Mo_thickness_107 : decode b_Mo_thickness 107 = .ok (.goto (-79), 3) := by decide +kernel
theorem d_Mo_thickness_110 : decode b_Mo_thickness 110 = .ok (.iload 4, 2) := by decide +kernel
theorem d_Mo_thickness_112 : decode b_Mo_thickness 112 = .ok (.aload_n 0, 1) := by decide +kernel
theorem d_Mo_thickness_113 : decode b_Mo_thickness 113 = .ok (.getfield 20, 3) := by decide +kernel
theorem d_Mo_thickness_116 : decode b_Mo_thickness 116 = .ok (.iload_n 1, 1) := by decide +kernel
theorem d_Mo_thickness_117 : decode b_Mo_thickness 117 = .ok (.iaload, 1) := by decide +kernel
theorem d_Mo_thickness_118 : decode b_Mo_thickness 118 = .ok (.if_icmp .ge 18, 3) := by decide +kernel
theorem d_Mo_thickness_121 : decode b_Mo_thickness 121 = .ok (.aload_n 0, 1) := by decide +kernel
theorem d_Mo_thickness_122 : decode b_Mo_thickness 122 = .ok (.getfield 23, 3) := by decide +kernel
theorem d_Mo_thickness_125 : decode b_Mo_thickness 125 = .ok (.bipush 8, 2) := by decide +kernel
theorem d_Mo_thickness_127 : decode b_Mo_thickness 127 = .ok (.iload_n 1, 1) := by decide +kernel
theorem d_Mo_thickness_128 : decode b_Mo_thickness 128 = .ok (.imul, 1) := by decide +kernel
theorem d_Mo_thickness_129 : decode b_Mo_thickness 129 = .ok (.iload 4, 2) := by decide +kernel
theorem d_Mo_thickness_131 : decode b_Mo_thickness 131 = .ok (.iadd, 1) := by decide +kernel
theorem d_Mo_thickness_132 : decode b_Mo_thickness 132 = .ok (.iaload, 1) := by decide +kernel
theorem d_Mo_thickness_133 : decode b_Mo_thickness 133 = .ok (.goto 4, 3) := by decide +kernel
theorem d_Mo_thickness_136 : decode b_Mo_thickness 136 = .ok (.iconst (-1), 1) := by decide +kernel
theorem d_Mo_thickness_137 : decode b_Mo_thickness 137 = .ok (.ireturn, 1) := by decide +kernel
theorem d_Mo_pack_0 : decode b_Mo_pack 0 = .ok (.aload_n 0, 1) := by decide +kernel
theorem d_Mo_pack_1 : decode b_Mo_pack 1 = .ok (.iload_n 1, 1) := by decide +kernel
theorem d_Mo_pack_2 : decode b_Mo_pack 2 = .ok (.ifCond .lt 17, 3) := by decide +kernel
theorem d_Mo_pack_5 : decode b_Mo_pack 5 = .ok (.iload_n 1, 1) := by decide +kernel
theorem d_Mo_pack_6 : decode b_Mo_pack 6 = .ok (.iconst 1, 1) := by decide +kernel
theorem d_Mo_pack_7 : decode b_Mo_pack 7 = .ok (.aload_n 0, 1) := by decide +kernel
theorem d_Mo_pack_8 : decode b_Mo_pack 8 = .ok (.getfield 63, 3) := by decide +kernel
theorem d_Mo_pack_11 : decode b_Mo_pack 11 = .ok (.ishl, 1) := by decide +kernel
theorem d_Mo_pack_12 : decode b_Mo_pack 12 = .ok (.if_icmp .ge 7, 3) := by decide +kernel
theorem d_Mo_pack_15 : decode b_Mo_pack 15 = .ok (.iconst 1, 1) := by decide +kernel
theorem d_Mo_pack_16 : decode b_Mo_pack 16 = .ok (.goto 4, 3) := by decide +kernel
theorem d_Mo_pack_19 : decode b_Mo_pack 19 = .ok (.iconst 0, 1) := by decide +kernel
theorem d_Mo_pack_20 : decode b_Mo_pack 20 = .ok (.iload_n 1, 1) := by decide +kernel
theorem d_Mo_pack_21 : decode b_Mo_pack 21 = .ok (.ifCond .eq 17, 3) := by decide +kernel
theorem d_Mo_pack_24 : decode b_Mo_pack 24 = .ok (.iload_n 2, 1) := by decide +kernel
theorem d_Mo_pack_25 : decode b_Mo_pack 25 = .ok (.iconst 0, 1) := by decide +kernel
theorem d_Mo_pack_26 : decode b_Mo_pack 26 = .ok (.bipush 20, 2) := by decide +kernel
theorem d_Mo_pack_28 : decode b_Mo_pack 28 = .ok (.invokestatic 66, 3) := by decide +kernel
theorem d_Mo_pack_31 : decode b_Mo_pack 31 = .ok (.ifCond .eq 7, 3) := by decide +kernel
theorem d_Mo_pack_34 : decode b_Mo_pack 34 = .ok (.iconst 1, 1) := by decide +kernel
theorem d_Mo_pack_35 : decode b_Mo_pack 35 = .ok (.goto 4, 3) := by decide +kernel
theorem d_Mo_pack_38 : decode b_Mo_pack 38 = .ok (.iconst 0, 1) := by decide +kernel
theorem d_Mo_pack_39 : decode b_Mo_pack 39 = .ok (.iconst 1, 1) := by decide +kernel
theorem d_Mo_pack_40 : decode b_Mo_pack 40 = .ok (.invokevirtual 71, 3) := by decide +kernel
theorem d_Mo_pack_43 : decode b_Mo_pack 43 = .ok (.ifCond .ne 5, 3) := by decide +kernel
theorem d_Mo_pack_46 : decode b_Mo_pack 46 = .ok (.iconst 0, 1) := by decide +kernel
theorem d_Mo_pack_47 : decode b_Mo_pack 47 = .ok (.ireturn, 1) := by decide +kernel
theorem d_Mo_pack_48 : decode b_Mo_pack 48 = .ok (.iconst 1, 1) := by decide +kernel
theorem d_Mo_pack_49 : decode b_Mo_pack 49 = .ok (.istore_n 3, 1) := by decide +kernel
theorem d_Mo_pack_50 : decode b_Mo_pack 50 = .ok (.iconst 0, 1) := by decide +kernel
theorem d_Mo_pack_51 : decode b_Mo_pack 51 = .ok (.istore 4, 2) := by decide +kernel
theorem d_Mo_pack_53 : decode b_Mo_pack 53 = .ok (.iconst 0, 1) := by decide +kernel
theorem d_Mo_pack_54 : decode b_Mo_pack 54 = .ok (.istore 5, 2) := by decide +kernel
theorem d_Mo_pack_56 : decode b_Mo_pack 56 = .ok (.iload 5, 2) := by decide +kernel
theorem d_Mo_pack_58 : decode b_Mo_pack 58 = .ok (.bipush 6, 2) := by decide +kernel
theorem d_Mo_pack_60 : decode b_Mo_pack 60 = .ok (.if_icmp .ge 47, 3) := by decide +kernel
theorem d_Mo_pack_63 : decode b_Mo_pack 63 = .ok (.iload_n 1, 1) := by decide +kernel
theorem d_Mo_pack_64 : decode b_Mo_pack 64 = .ok (.iload 5, 2) := by decide +kernel
theorem d_Mo_pack_66 : decode b_Mo_pack 66 = .ok (.invokestatic 90, 3) := by decide +kernel
theorem d_Mo_pack_69 : decode b_Mo_pack 69 = .ok (.ifCond .eq 10, 3) := by decide +kernel
theorem d_Mo_pack_72 : decode b_Mo_pack 72 = .ok (.bipush 6, 2) := by decide +kernel
theorem d_Mo_pack_74 : decode b_Mo_pack 74 = .ok (.iload_n 3, 1) := by decide +kernel
theorem d_Mo_pack_75 : decode b_Mo_pack 75 = .ok (.imul, 1) := by decide +kernel
theorem d_Mo_pack_76 : decode b_Mo_pack 76 = .ok (.goto 4, 3) := by decide +kernel
theorem d_Mo_pack_79 : decode b_Mo_pack 79 = .ok (.iload_n 3, 1) := by decide +kernel
theorem d_Mo_pack_80 : decode b_Mo_pack 80 = .ok (.istore_n 3, 1) := by decide +kernel
theorem d_Mo_pack_81 : decode b_Mo_pack 81 = .ok (.iload_n 1, 1) := by decide +kernel
theorem d_Mo_pack_82 : decode b_Mo_pack 82 = .ok (.iload 5, 2) := by decide +kernel
theorem d_Mo_pack_84 : decode b_Mo_pack 84 = .ok (.invokestatic 90, 3) := by decide +kernel
theorem d_Mo_pack_87 : decode b_Mo_pack 87 = .ok (.ifCond .eq 10, 3) := by decide +kernel
theorem d_Mo_pack_90 : decode b_Mo_pack 90 = .ok (.iload 4, 2) := by decide +kernel
theorem d_Mo_pack_92 : decode b_Mo_pack 92 = .ok (.iconst 1, 1) := by decide +kernel
theorem d_Mo_pack_93 : decode b_Mo_pack 93 = .ok (.iadd, 1) := by decide +kernel
theorem d_Mo_pack_94 : decode b_Mo_pack 94 = .ok (.goto 5, 3) := by decide +kernel
theorem d_Mo_pack_97 : decode b_Mo_pack 97 = .ok (.iload 4, 2) := by decide +kernel
theorem d_Mo_pack_99 : decode b_Mo_pack 99 = .ok (.istore 4, 2) := by decide +kernel
theorem d_Mo_pack_101 : decode b_Mo_pack 101 = .ok (.iinc 5 1, 3) := by decide +kernel
theorem d_Mo_pack_104 : decode b_Mo_pack 104 = .ok (.goto (-48), 3) := by decide +kernel
theorem d_Mo_pack_107 : decode b_Mo_pack 107 = .ok (.ldc2_w 97, 3) := by decide +kernel
theorem d_Mo_pack_110 : decode b_Mo_pack 110 = .ok (.lstore 5, 2) := by decide +kernel
theorem d_Mo_pack_112 : decode b_Mo_pack 112 = .ok (.iconst 0, 1) := by decide +kernel
theorem d_Mo_pack_113 : decode b_Mo_pack 113 = .ok (.istore 7, 2) := by decide +kernel
theorem d_Mo_pack_115 : decode b_Mo_pack 115 = .ok (.iconst 0, 1) := by decide +kernel
theorem d_Mo_pack_116 : decode b_Mo_pack 116 = .ok (.istore 8, 2) := by decide +kernel
theorem d_Mo_pack_118 : decode b_Mo_pack 118 = .ok (.iload 8, 2) := by decide +kernel
theorem d_Mo_pack_120 : decode b_Mo_pack 120 = .ok (.iload_n 3, 1) := by decide +kernel
theorem d_Mo_pack_121 : decode b_Mo_pack 121 = .ok (.if_icmp .ge 99, 3) := by decide +kernel
theorem d_Mo_pack_124 : decode b_Mo_pack 124 = .ok (.aload_n 0, 1) := by decide +kernel
theorem d_Mo_pack_125 : decode b_Mo_pack 125 = .ok (.iload_n 1, 1) := by decide +kernel
theorem d_Mo_pack_126 : decode b_Mo_pack 126 = .ok (.iload 8, 2) := by decide +kernel
theorem d_Mo_pack_128 : decode b_Mo_pack 128 = .ok (.invokevirtual 99, 3) := by decide +kernel
theorem d_Mo_pack_131 : decode b_Mo_pack 131 = .ok (.aload_n 0, 1) := by decide +kernel
theorem d_Mo_pack_132 : decode b_Mo_pack 132 = .ok (.iload_n 1, 1) := by decide +kernel
theorem d_Mo_pack_133 : decode b_Mo_pack 133 = .ok (.invokevirtual 103, 3) := by decide +kernel
theorem d_Mo_pack_136 : decode b_Mo_pack 136 = .ok (.ifCond .eq 78, 3) := by decide +kernel
theorem d_Mo_pack_139 : decode b_Mo_pack 139 = .ok (.aload_n 0, 1) := by decide +kernel
theorem d_Mo_pack_140 : decode b_Mo_pack 140 = .ok (.iload_n 1, 1) := by decide +kernel
theorem d_Mo_pack_141 : decode b_Mo_pack 141 = .ok (.iload_n 2, 1) := by decide +kernel
theorem d_Mo_pack_142 : decode b_Mo_pack 142 = .ok (.invokevirtual 106, 3) := by decide +kernel
theorem d_Mo_pack_145 : decode b_Mo_pack 145 = .ok (.i2l, 1) := by decide +kernel
theorem d_Mo_pack_146 : decode b_Mo_pack 146 = .ok (.aload_n 0, 1) := by decide +kernel
theorem d_Mo_pack_147 : decode b_Mo_pack 147 = .ok (.iload_n 1, 1) := by decide +kernel
theorem d_Mo_pack_148 : decode b_Mo_pack 148 = .ok (.iconst 1, 1) := by decide +kernel
theorem d_Mo_pack_149 : decode b_Mo_pack 149 = .ok (.iload_n 2, 1) := by decide +kernel
theorem d_Mo_pack_150 : decode b_Mo_pack 150 = .ok (.invokevirtual 109, 3) := by decide +kernel
theorem d_Mo_pack_153 : decode b_Mo_pack 153 = .ok (.i2l, 1) := by decide +kernel
theorem d_Mo_pack_154 : decode b_Mo_pack 154 = .ok (.lmul, 1) := by decide +kernel
theorem d_Mo_pack_155 : decode b_Mo_pack 155 = .ok (.aload_n 0, 1) := by decide +kernel
theorem d_Mo_pack_156 : decode b_Mo_pack 156 = .ok (.iload_n 1, 1) := by decide +kernel
theorem d_Mo_pack_157 : decode b_Mo_pack 157 = .ok (.iconst 2, 1) := by decide +kernel
theorem d_Mo_pack_158 : decode b_Mo_pack 158 = .ok (.iload_n 2, 1) := by decide +kernel
theorem d_Mo_pack_159 : decode b_Mo_pack 159 = .ok (.invokevirtual 109, 3) := by decide +kernel
theorem d_Mo_pack_162 : decode b_Mo_pack 162 = .ok (.i2l, 1) := by decide +kernel
theorem d_Mo_pack_163 : decode b_Mo_pack 163 = .ok (.lmul, 1) := by decide +kernel
theorem d_Mo_pack_164 : decode b_Mo_pack 164 = .ok (.lstore 9, 2) := by decide +kernel
theorem d_Mo_pack_166 : decode b_Mo_pack 166 = .ok (.lload 5, 2) := by decide +kernel
theorem d_Mo_pack_168 : decode b_Mo_pack 168 = .ok (.lconst 0, 1) := by decide +kernel
theorem d_Mo_pack_169 : decode b_Mo_pack 169 = .ok (.lcmp, 1) := by decide +kernel
theorem d_Mo_pack_170 : decode b_Mo_pack 170 = .ok (.ifCond .lt 11, 3) := by decide +kernel
theorem d_Mo_pack_173 : decode b_Mo_pack 173 = .ok (.lload 9, 2) := by decide +kernel
theorem d_Mo_pack_175 : decode b_Mo_pack 175 = .ok (.lload 5, 2) := by decide +kernel
theorem d_Mo_pack_177 : decode b_Mo_pack 177 = .ok (.lcmp, 1) := by decide +kernel
theorem d_Mo_pack_178 : decode b_Mo_pack 178 = .ok (.ifCond .ge 8, 3) := by decide +kernel
theorem d_Mo_pack_181 : decode b_Mo_pack 181 = .ok (.iload 8, 2) := by decide +kernel
theorem d_Mo_pack_183 : decode b_Mo_pack 183 = .ok (.goto 5, 3) := by decide +kernel
theorem d_Mo_pack_186 : decode b_Mo_pack 186 = .ok (.iload 7, 2) := by decide +kernel
theorem d_Mo_pack_188 : decode b_Mo_pack 188 = .ok (.istore 7, 2) := by decide +kernel
theorem d_Mo_pack_190 : decode b_Mo_pack 190 = .ok (.lload 5, 2) := by decide +kernel
theorem d_Mo_pack_192 : decode b_Mo_pack 192 = .ok (.lconst 0, 1) := by decide +kernel
theorem d_Mo_pack_193 : decode b_Mo_pack 193 = .ok (.lcmp, 1) := by decide +kernel
theorem d_Mo_pack_194 : decode b_Mo_pack 194 = .ok (.ifCond .lt 11, 3) := by decide +kernel
theorem d_Mo_pack_197 : decode b_Mo_pack 197 = .ok (.lload 9, 2) := by decide +kernel
theorem d_Mo_pack_199 : decode b_Mo_pack 199 = .ok (.lload 5, 2) := by decide +kernel
theorem d_Mo_pack_201 : decode b_Mo_pack 201 = .ok (.lcmp, 1) := by decide +kernel
theorem d_Mo_pack_202 : decode b_Mo_pack 202 = .ok (.ifCond .ge 8, 3) := by decide +kernel
theorem d_Mo_pack_205 : decode b_Mo_pack 205 = .ok (.lload 9, 2) := by decide +kernel
theorem d_Mo_pack_207 : decode b_Mo_pack 207 = .ok (.goto 5, 3) := by decide +kernel
theorem d_Mo_pack_210 : decode b_Mo_pack 210 = .ok (.lload 5, 2) := by decide +kernel
theorem d_Mo_pack_212 : decode b_Mo_pack 212 = .ok (.lstore 5, 2) := by decide +kernel
theorem d_Mo_pack_214 : decode b_Mo_pack 214 = .ok (.iinc 8 1, 3) := by decide +kernel
theorem d_Mo_pack_217 : decode b_Mo_pack 217 = .ok (.goto (-99), 3) := by decide +kernel
theorem d_Mo_pack_220 : decode b_Mo_pack 220 = .ok (.lload 5, 2) := by decide +kernel
theorem d_Mo_pack_222 : decode b_Mo_pack 222 = .ok (.lconst 0, 1) := by decide +kernel
theorem d_Mo_pack_223 : decode b_Mo_pack 223 = .ok (.lcmp, 1) := by decide +kernel
theorem d_Mo_pack_224 : decode b_Mo_pack 224 = .ok (.ifCond .ge 5, 3) := by decide +kernel
theorem d_Mo_pack_227 : decode b_Mo_pack 227 = .ok (.iconst (-1), 1) := by decide +kernel
theorem d_Mo_pack_228 : decode b_Mo_pack 228 = .ok (.ireturn, 1) := by decide +kernel
theorem d_Mo_pack_229 : decode b_Mo_pack 229 = .ok (.aload_n 0, 1) := by decide +kernel
theorem d_Mo_pack_230 : decode b_Mo_pack 230 = .ok (.iload_n 1, 1) := by decide +kernel
theorem d_Mo_pack_231 : decode b_Mo_pack 231 = .ok (.iload 7, 2) := by decide +kernel
theorem d_Mo_pack_233 : decode b_Mo_pack 233 = .ok (.invokevirtual 99, 3) := by decide +kernel
theorem d_Mo_pack_236 : decode b_Mo_pack 236 = .ok (.aload_n 0, 1) := by decide +kernel
theorem d_Mo_pack_237 : decode b_Mo_pack 237 = .ok (.aload_n 0, 1) := by decide +kernel
theorem d_Mo_pack_238 : decode b_Mo_pack 238 = .ok (.iload_n 1, 1) := by decide +kernel
theorem d_Mo_pack_239 : decode b_Mo_pack 239 = .ok (.iload_n 2, 1) := by decide +kernel
theorem d_Mo_pack_240 : decode b_Mo_pack 240 = .ok (.invokevirtual 106, 3) := by decide +kernel
theorem d_Mo_pack_243 : decode b_Mo_pack 243 = .ok (.putfield 112, 3) := by decide +kernel
theorem d_Mo_pack_246 : decode b_Mo_pack 246 = .ok (.aload_n 0, 1) := by decide +kernel
theorem d_Mo_pack_247 : decode b_Mo_pack 247 = .ok (.aload_n 0, 1) := by decide +kernel
theorem d_Mo_pack_248 : decode b_Mo_pack 248 = .ok (.iload_n 1, 1) := by decide +kernel
theorem d_Mo_pack_249 : decode b_Mo_pack 249 = .ok (.iconst 1, 1) := by decide +kernel
theorem d_Mo_pack_250 : decode b_Mo_pack 250 = .ok (.iload_n 2, 1) := by decide +kernel
theorem d_Mo_pack_251 : decode b_Mo_pack 251 = .ok (.invokevirtual 109, 3) := by decide +kernel
theorem d_Mo_pack_254 : decode b_Mo_pack 254 = .ok (.putfield 115, 3) := by decide +kernel
theorem d_Mo_pack_257 : decode b_Mo_pack 257 = .ok (.aload_n 0, 1) := by decide +kernel
theorem d_Mo_pack_258 : decode b_Mo_pack 258 = .ok (.aload_n 0, 1) := by decide +kernel
theorem d_Mo_pack_259 : decode b_Mo_pack 259 = .ok (.iload_n 1, 1) := by decide +kernel
theorem d_Mo_pack_260 : decode b_Mo_pack 260 = .ok (.iconst 2, 1) := by decide +kernel
theorem d_Mo_pack_261 : decode b_Mo_pack 261 = .ok (.iload_n 2, 1) := by decide +kernel
theorem d_Mo_pack_262 : decode b_Mo_pack 262 = .ok (.invokevirtual 109, 3) := by decide +kernel
theorem d_Mo_pack_265 : decode b_Mo_pack 265 = .ok (.putfield 118, 3) := by decide +kernel
theorem d_Mo_pack_268 : decode b_Mo_pack 268 = .ok (.aload_n 0, 1) := by decide +kernel
theorem d_Mo_pack_269 : decode b_Mo_pack 269 = .ok (.iload_n 2, 1) := by decide +kernel
theorem d_Mo_pack_270 : decode b_Mo_pack 270 = .ok (.putfield 121, 3) := by decide +kernel
theorem d_Mo_pack_273 : decode b_Mo_pack 273 = .ok (.aload_n 0, 1) := by decide +kernel
theorem d_Mo_pack_274 : decode b_Mo_pack 274 = .ok (.iconst 1, 1) := by decide +kernel
theorem d_Mo_pack_275 : decode b_Mo_pack 275 = .ok (.putfield 124, 3) := by decide +kernel
theorem d_Mo_pack_278 : decode b_Mo_pack 278 = .ok (.iconst 0, 1) := by decide +kernel
theorem d_Mo_pack_279 : decode b_Mo_pack 279 = .ok (.istore 8, 2) := by decide +kernel
theorem d_Mo_pack_281 : decode b_Mo_pack 281 = .ok (.iload 8, 2) := by decide +kernel
theorem d_Mo_pack_283 : decode b_Mo_pack 283 = .ok (.bipush 6, 2) := by decide +kernel
theorem d_Mo_pack_285 : decode b_Mo_pack 285 = .ok (.if_icmp .ge 23, 3) := by decide +kernel
theorem d_Mo_pack_288 : decode b_Mo_pack 288 = .ok (.aload_n 0, 1) := by decide +kernel
theorem d_Mo_pack_289 : decode b_Mo_pack 289 = .ok (.getfield 35, 3) := by decide +kernel
theorem d_Mo_pack_292 : decode b_Mo_pack 292 = .ok (.iload 8, 2) := by decide +kernel
theorem d_Mo_pack_294 : decode b_Mo_pack 294 = .ok (.aload_n 0, 1) := by decide +kernel
theorem d_Mo_pack_295 : decode b_Mo_pack 295 = .ok (.getfield 38, 3) := by decide +kernel
theorem d_Mo_pack_298 : decode b_Mo_pack 298 = .ok (.iload 8, 2) := by decide +kernel
theorem d_Mo_pack_300 : decode b_Mo_pack 300 = .ok (.iaload, 1) := by decide +kernel
theorem d_Mo_pack_301 : decode b_Mo_pack 301 = .ok (.iastore, 1) := by decide +kernel
theorem d_Mo_pack_302 : decode b_Mo_pack 302 = .ok (.iinc 8 1, 3) := by decide +kernel
theorem d_Mo_pack_305 : decode b_Mo_pack 305 = .ok (.goto (-24), 3) := by decide +kernel
theorem d_Mo_pack_308 : decode b_Mo_pack 308 = .ok (.iload 4, 2) := by decide +kernel
theorem d_Mo_pack_310 : decode b_Mo_pack 310 = .ok (.ireturn, 1) := by decide +kernel
end
section
theorem d_Mo_isIn_0 : decode b_Mo_isIn 0 = .ok (.iload_n 0, 1) := by decide +kernel
theorem d_Mo_isIn_1 : decode b_Mo_isIn 1 = .ok (.iload_n 1, 1) := by decide +kernel
theorem d_Mo_isIn_2 : decode b_Mo_isIn 2 = .ok (.ishr, 1) := by decide +kernel
theorem d_Mo_isIn_3 : decode b_Mo_isIn 3 = .ok (.iconst 1, 1) := by decide +kernel
theorem d_Mo_isIn_4 : decode b_Mo_isIn 4 = .ok (.iand, 1) := by decide +kernel
theorem d_Mo_isIn_5 : decode b_Mo_isIn 5 = .ok (.iconst 1, 1) := by decide +kernel
theorem d_Mo_isIn_6 : decode b_Mo_isIn 6 = .ok (.if_icmp .ne 7, 3) := by decide +kernel
theorem d_Mo_isIn_9 : decode b_Mo_isIn 9 = .ok (.iconst 1, 1) := by decide +kernel
theorem d_Mo_isIn_10 : decode b_Mo_isIn 10 = .ok (.goto 4, 3) := by decide +kernel
theorem d_Mo_isIn_13 : decode b_Mo_isIn 13 = .ok (.iconst 0, 1) := by decide +kernel
theorem d_Mo_isIn_14 : decode b_Mo_isIn 14 = .ok (.ireturn, 1) := by decide +kernel
theorem d_Mo_turn_0 : decode b_Mo_turn 0 = .ok (.iload_n 2, 1) := by decide +kernel
theorem d_Mo_turn_1 : decode b_Mo_turn 1 = .ok (.istore_n 3, 1) := by decide +kernel
theorem d_Mo_turn_2 : decode b_Mo_turn 2 = .ok (.iconst 5, 1) := by decide +kernel
theorem d_Mo_turn_3 : decode b_Mo_turn 3 = .ok (.istore 4, 2) := by decide +kernel
theorem d_Mo_turn_5 : decode b_Mo_turn 5 = .ok (.iload 4, 2) := by decide +kernel
theorem d_Mo_turn_7 : decode b_Mo_turn 7 = .ok (.ifCond .lt 51, 3) := by decide +kernel
theorem d_Mo_turn_10 : decode b_Mo_turn 10 = .ok (.aload_n 0, 1) := by decide +kernel
theorem d_Mo_turn_11 : decode b_Mo_turn 11 = .ok (.getfield 38, 3) := by decide +kernel
theorem d_Mo_turn_14 : decode b_Mo_turn 14 = .ok (.iload 4, 2) := by decide +kernel
theorem d_Mo_turn_16 : decode b_Mo_turn 16 = .ok (.iload_n 1, 1) := by decide +kernel
theorem d_Mo_turn_17 : decode b_Mo_turn 17 = .ok (.iload 4, 2) := by decide +kernel
theorem d_Mo_turn_19 : decode b_Mo_turn 19 = .ok (.invokestatic 90, 3) := by decide +kernel
theorem d_Mo_turn_22 : decode b_Mo_turn 22 = .ok (.ifCond .eq 10, 3) := by decide +kernel
theorem d_Mo_turn_25 : decode b_Mo_turn 25 = .ok (.iload_n 3, 1) := by decide +kernel
theorem d_Mo_turn_26 : decode b_Mo_turn 26 = .ok (.bipush 6, 2) := by decide +kernel
theorem d_Mo_turn_28 : decode b_Mo_turn 28 = .ok (.irem, 1) := by decide +kernel
theorem d_Mo_turn_29 : decode b_Mo_turn 29 = .ok (.goto 4, 3) := by decide +kernel
theorem d_Mo_turn_32 : decode b_Mo_turn 32 = .ok (.iconst (-1), 1) := by decide +kernel
theorem d_Mo_turn_33 : decode b_Mo_turn 33 = .ok (.iastore, 1) := by decide +kernel
theorem d_Mo_turn_34 : decode b_Mo_turn 34 = .ok (.iload_n 1, 1) := by decide +kernel
theorem d_Mo_turn_35 : decode b_Mo_turn 35 = .ok (.iload 4, 2) := by decide +kernel
theorem d_Mo_turn_37 : decode b_Mo_turn 37 = .ok (.invokestatic 90, 3) := by decide +kernel
theorem d_Mo_turn_40 : decode b_Mo_turn 40 = .ok (.ifCond .eq 10, 3) := by decide +kernel
theorem d_Mo_turn_43 : decode b_Mo_turn 43 = .ok (.iload_n 3, 1) := by decide +kernel
theorem d_Mo_turn_44 : decode b_Mo_turn 44 = .ok (.bipush 6, 2) := by decide +kernel
theorem d_Mo_turn_46 : decode b_Mo_turn 46 = .ok (.idiv, 1) := by decide +kernel
theorem d_Mo_turn_47 : decode b_Mo_turn 47 = .ok (.goto 4, 3) := by decide +kernel
theorem d_Mo_turn_50 : decode b_Mo_turn 50 = .ok (.iload_n 3, 1) := by decide +kernel
theorem d_Mo_turn_51 : decode b_Mo_turn 51 = .ok (.istore_n 3, 1) := by decide +kernel
theorem d_Mo_turn_52 : decode b_Mo_turn 52 = .ok (.iinc 4 (-1), 3) := by decide +kernel
theorem d_Mo_turn_55 : decode b_Mo_turn 55 = .ok (.goto (-50), 3) := by decide +kernel
theorem d_Mo_turn_58 : decode b_Mo_turn 58 = .ok (.return_, 1) := by decide +kernel
theorem d_Mo_stands_0 : decode b_Mo_stands 0 = .ok (.iconst 1, 1) := by decide +kernel
theorem d_Mo_stands_1 : decode b_Mo_stands 1 = .ok (.istore_n 2, 1) := by decide +kernel
theorem d_Mo_stands_2 : decode b_Mo_stands 2 = .ok (.iconst 0, 1) := by decide +kernel
theorem d_Mo_stands_3 : decode b_Mo_stands 3 = .ok (.istore_n 3, 1) := by decide +kernel
theorem d_Mo_stands_4 : decode b_Mo_stands 4 = .ok (.iload_n 3, 1) := by decide +kernel
theorem d_Mo_stands_5 : decode b_Mo_stands 5 = .ok (.bipush 6, 2) := by decide +kernel
theorem d_Mo_stands_7 : decode b_Mo_stands 7 = .ok (.if_icmp .ge 46, 3) := by decide +kernel
theorem d_Mo_stands_10 : decode b_Mo_stands 10 = .ok (.iload_n 2, 1) := by decide +kernel
theorem d_Mo_stands_11 : decode b_Mo_stands 11 = .ok (.ifCond .eq 34, 3) := by decide +kernel
theorem d_Mo_stands_14 : decode b_Mo_stands 14 = .ok (.iload_n 1, 1) := by decide +kernel
theorem d_Mo_stands_15 : decode b_Mo_stands 15 = .ok (.iload_n 3, 1) := by decide +kernel
theorem d_Mo_stands_16 : decode b_Mo_stands 16 = .ok (.invokestatic 90, 3) := by decide +kernel
theorem d_Mo_stands_19 : decode b_Mo_stands 19 = .ok (.ifCond .eq 22, 3) := by decide +kernel
theorem d_Mo_stands_22 : decode b_Mo_stands 22 = .ok (.aload_n 0, 1) := by decide +kernel
theorem d_Mo_stands_23 : decode b_Mo_stands 23 = .ok (.getfield 16, 3) := by decide +kernel
theorem d_Mo_stands_26 : decode b_Mo_stands 26 = .ok (.bipush 6, 2) := by decide +kernel
theorem d_Mo_stands_28 : decode b_Mo_stands 28 = .ok (.iload_n 3, 1) := by decide +kernel
theorem d_Mo_stands_29 : decode b_Mo_stands 29 = .ok (.imul, 1) := by decide +kernel
theorem d_Mo_stands_30 : decode b_Mo_stands 30 = .ok (.aload_n 0, 1) := by decide +kernel
theorem d_Mo_stands_31 : decode b_Mo_stands 31 = .ok (.getfield 38, 3) := by decide +kernel
theorem d_Mo_stands_34 : decode b_Mo_stands 34 = .ok (.iload_n 3, 1) := by decide +kernel
theorem d_Mo_stands_35 : decode b_Mo_stands 35 = .ok (.iaload, 1) := by decide +kernel
theorem d_Mo_stands_36 : decode b_Mo_stands 36 = .ok (.iadd, 1) := by decide +kernel
theorem d_Mo_stands_37 : decode b_Mo_stands 37 = .ok (.baload, 1) := by decide +kernel
theorem d_Mo_stands_38 : decode b_Mo_stands 38 = .ok (.ifCond .ne 7, 3) := by decide +kernel
theorem d_Mo_stands_41 : decode b_Mo_stands 41 = .ok (.iconst 1, 1) := by decide +kernel
theorem d_Mo_stands_42 : decode b_Mo_stands 42 = .ok (.goto 4, 3) := by decide +kernel
theorem d_Mo_stands_45 : decode b_Mo_stands 45 = .ok (.iconst 0, 1) := by decide +kernel
theorem d_Mo_stands_46 : decode b_Mo_stands 46 = .ok (.istore_n 2, 1) := by decide +kernel
theorem d_Mo_stands_47 : decode b_Mo_stands 47 = .ok (.iinc 3 1, 3) := by decide +kernel
theorem d_Mo_stands_50 : decode b_Mo_stands 50 = .ok (.goto (-46), 3) := by decide +kernel
theorem d_Mo_stands_53 : decode b_Mo_stands 53 = .ok (.iload_n 2, 1) := by decide +kernel
theorem d_Mo_stands_54 : decode b_Mo_stands 54 = .ok (.ireturn, 1) := by decide +kernel
theorem d_Mo_lengthOf_0 : decode b_Mo_lengthOf 0 = .ok (.iload_n 2, 1) := by decide +kernel
theorem d_Mo_lengthOf_1 : decode b_Mo_lengthOf 1 = .ok (.istore_n 3, 1) := by decide +kernel
theorem d_Mo_lengthOf_2 : decode b_Mo_lengthOf 2 = .ok (.iconst 0, 1) := by decide +kernel
theorem d_Mo_lengthOf_3 : decode b_Mo_lengthOf 3 = .ok (.istore 4, 2) := by decide +kernel
theorem d_Mo_lengthOf_5 : decode b_Mo_lengthOf 5 = .ok (.iload 4, 2) := by decide +kernel
theorem d_Mo_lengthOf_7 : decode b_Mo_lengthOf 7 = .ok (.bipush 6, 2) := by decide +kernel
theorem d_Mo_lengthOf_9 : decode b_Mo_lengthOf 9 = .ok (.if_icmp .ge 41, 3) := by decide +kernel
theorem d_Mo_lengthOf_12 : decode b_Mo_lengthOf 12 = .ok (.iload_n 1, 1) := by decide +kernel
theorem d_Mo_lengthOf_13 : decode b_Mo_lengthOf 13 = .ok (.iload 4, 2) := by decide +kernel
theorem d_Mo_lengthOf_15 : decode b_Mo_lengthOf 15 = .ok (.invokestatic 90, 3) := by decide +kernel
theorem d_Mo_lengthOf_18 : decode b_Mo_lengthOf 18 = .ok (.ifCond .eq 24, 3) := by decide +kernel
theorem d_Mo_lengthOf_21 : decode b_Mo_lengthOf 21 = .ok (.iload_n 3, 1) := by decide +kernel
theorem d_Mo_lengthOf_22 : decode b_Mo_lengthOf 22 = .ok (.aload_n 0, 1) := by decide +kernel
theorem d_Mo_lengthOf_23 : decode b_Mo_lengthOf 23 = .ok (.iload 4, 2) := by decide +kernel
theorem d_Mo_lengthOf_25 : decode b_Mo_lengthOf 25 = .ok (.aload_n 0, 1) := by decide +kernel
theorem d_Mo_lengthOf_26 : decode b_Mo_lengthOf 26 = .ok (.getfield 38, 3) := by decide +kernel
theorem d_Mo_lengthOf_29 : decode b_Mo_lengthOf 29 = .ok (.iload 4, 2) := by decide +kernel
theorem d_Mo_lengthOf_31 : decode b_Mo_lengthOf 31 = .ok (.iaload, 1) := by decide +kernel
theorem d_Mo_lengthOf_32 : decode b_Mo_lengthOf 32 = .ok (.iconst 0, 1) := by decide +kernel
theorem d_Mo_lengthOf_33 : decode b_Mo_lengthOf 33 = .ok (.invokevirtual 93, 3) := by decide +kernel
theorem d_Mo_lengthOf_36 : decode b_Mo_lengthOf 36 = .ok (.iadd, 1) := by decide +kernel
theorem d_Mo_lengthOf_37 : decode b_Mo_lengthOf 37 = .ok (.iload_n 2, 1) := by decide +kernel
theorem d_Mo_lengthOf_38 : decode b_Mo_lengthOf 38 = .ok (.iadd, 1) := by decide +kernel
theorem d_Mo_lengthOf_39 : decode b_Mo_lengthOf 39 = .ok (.goto 4, 3) := by decide +kernel
theorem d_Mo_lengthOf_42 : decode b_Mo_lengthOf 42 = .ok (.iload_n 3, 1) := by decide +kernel
theorem d_Mo_lengthOf_43 : decode b_Mo_lengthOf 43 = .ok (.istore_n 3, 1) := by decide +kernel
theorem d_Mo_lengthOf_44 : decode b_Mo_lengthOf 44 = .ok (.iinc 4 1, 3) := by decide +kernel
theorem d_Mo_lengthOf_47 : decode b_Mo_lengthOf 47 = .ok (.goto (-42), 3) := by decide +kernel
theorem d_Mo_lengthOf_50 : decode b_Mo_lengthOf 50 = .ok (.iload_n 3, 1) := by decide +kernel
theorem d_Mo_lengthOf_51 : decode b_Mo_lengthOf 51 = .ok (.ireturn, 1) := by decide +kernel
theorem d_Mo_along_0 : decode b_Mo_along 0 = .ok (.iload_n 2, 1) := by decide +kernel
theorem d_Mo_along_1 : decode b_Mo_along 1 = .ok (.ifCond .eq 8, 3) := by decide +kernel
theorem d_Mo_along_4 : decode b_Mo_along 4 = .ok (.iload_n 2, 1) := by decide +kernel
theorem d_Mo_along_5 : decode b_Mo_along 5 = .ok (.iconst 2, 1) := by decide +kernel
theorem d_Mo_along_6 : decode b_Mo_along 6 = .ok (.if_icmp .ne 7, 3) := by decide +kernel
theorem d_Mo_along_9 : decode b_Mo_along 9 = .ok (.iconst 0, 1) := by decide +kernel
theorem d_Mo_along_10 : decode b_Mo_along 10 = .ok (.goto 18, 3) := by decide +kernel
theorem d_Mo_along_13 : decode b_Mo_along 13 = .ok (.iload_n 2, 1) := by decide +kernel
theorem d_Mo_along_14 : decode b_Mo_along 14 = .ok (.iconst 1, 1) := by decide +kernel
theorem d_Mo_along_15 : decode b_Mo_along 15 = .ok (.if_icmp .eq 8, 3) := by decide +kernel
theorem d_Mo_along_18 : decode b_Mo_along 18 = .ok (.iload_n 2, 1) := by decide +kernel
theorem d_Mo_along_19 : decode b_Mo_along 19 = .ok (.iconst 4, 1) := by decide +kernel
theorem d_Mo_along_20 : decode b_Mo_along 20 = .ok (.if_icmp .ne 7, 3) := by decide +kernel
theorem d_Mo_along_23 : decode b_Mo_along 23 = .ok (.iconst 1, 1) := by decide +kernel
theorem d_Mo_along_24 : decode b_Mo_along 24 = .ok (.goto 4, 3) := by decide +kernel
theorem d_Mo_along_27 : decode b_Mo_along 27 = .ok (.iconst 2, 1) := by decide +kernel
theorem d_Mo_along_28 : decode b_Mo_along 28 = .ok (.istore 4, 2) := by decide +kernel
theorem d_Mo_along_30 : decode b_Mo_along 30 = .ok (.iload_n 2, 1) := by decide +kernel
theorem d_Mo_along_31 : decode b_Mo_along 31 = .ok (.iconst 1, 1) := by decide +kernel
theorem d_Mo_along_32 : decode b_Mo_along 32 = .ok (.if_icmp .eq 8, 3) := by decide +kernel
theorem d_Mo_along_35 : decode b_Mo_along 35 = .ok (.iload_n 2, 1) := by decide +kernel
theorem d_Mo_along_36 : decode b_Mo_along 36 = .ok (.iconst 3, 1) := by decide +kernel
theorem d_Mo_along_37 : decode b_Mo_along 37 = .ok (.if_icmp .ne 7, 3) := by decide +kernel
theorem d_Mo_along_40 : decode b_Mo_along 40 = .ok (.iconst 0, 1) := by decide +kernel
theorem d_Mo_along_41 : decode b_Mo_along 41 = .ok (.goto 17, 3) := by decide +kernel
theorem d_Mo_along_44 : decode b_Mo_along 44 = .ok (.iload_n 2, 1) := by decide +kernel
theorem d_Mo_along_45 : decode b_Mo_along 45 = .ok (.ifCond .eq 8, 3) := by decide +kernel
theorem d_Mo_along_48 : decode b_Mo_along 48 = .ok (.iload_n 2, 1) := by decide +kernel
theorem d_Mo_along_49 : decode b_Mo_along 49 = .ok (.iconst 5, 1) := by decide +kernel
theorem d_Mo_along_50 : decode b_Mo_along 50 = .ok (.if_icmp .ne 7, 3) := by decide +kernel
theorem d_Mo_along_53 : decode b_Mo_along 53 = .ok (.iconst 1, 1) := by decide +kernel
theorem d_Mo_along_54 : decode b_Mo_along 54 = .ok (.goto 4, 3) := by decide +kernel
theorem d_Mo_along_57 : decode b_Mo_along 57 = .ok (.iconst 2, 1) := by decide +kernel
theorem d_Mo_along_58 : decode b_Mo_along 58 = .ok (.istore 5, 2) := by decide +kernel
theorem d_Mo_along_60 : decode b_Mo_along 60 = .ok (.aload_n 0, 1) := by decide +kernel
theorem d_Mo_along_61 : decode b_Mo_along 61 = .ok (.getfield 7, 3) := by decide +kernel
theorem d_Mo_along_64 : decode b_Mo_along 64 = .ok (.iconst 3, 1) := by decide +kernel
theorem d_Mo_along_65 : decode b_Mo_along 65 = .ok (.iload_n 1, 1) := by decide +kernel
theorem d_Mo_along_66 : decode b_Mo_along 66 = .ok (.imul, 1) := by decide +kernel
theorem d_Mo_along_67 : decode b_Mo_along 67 = .ok (.iload_n 3, 1) := by decide +kernel
theorem d_Mo_along_68 : decode b_Mo_along 68 = .ok (.ifCond .ne 8, 3) := by decide +kernel
theorem d_Mo_along_71 : decode b_Mo_along 71 = .ok (.iload 4, 2) := by decide +kernel
theorem d_Mo_along_73 : decode b_Mo_along 73 = .ok (.goto 20, 3) := by decide +kernel
theorem d_Mo_along_76 : decode b_Mo_along 76 = .ok (.iload_n 3, 1) := by decide +kernel
theorem d_Mo_along_77 : decode b_Mo_along 77 = .ok (.iconst 1, 1) := by decide +kernel
theorem d_Mo_along_78 : decode b_Mo_along 78 = .ok (.if_icmp .ne 8, 3) := by decide +kernel
theorem d_Mo_along_81 : decode b_Mo_along 81 = .ok (.iload 5, 2) := by decide +kernel
theorem d_Mo_along_83 : decode b_Mo_along 83 = .ok (.goto 10, 3) := by decide +kernel
theorem d_Mo_along_86 : decode b_Mo_along 86 = .ok (.iconst 3, 1) := by decide +kernel
theorem d_Mo_along_87 : decode b_Mo_along 87 = .ok (.iload 4, 2) := by decide +kernel
theorem d_Mo_along_89 : decode b_Mo_along 89 = .ok (.isub, 1) := by decide +kernel
theorem d_Mo_along_90 : decode b_Mo_along 90 = .ok (.iload 5, 2) := by decide +kernel
theorem d_Mo_along_92 : decode b_Mo_along 92 = .ok (.isub, 1) := by decide +kernel
theorem d_Mo_along_93 : decode b_Mo_along 93 = .ok (.iadd, 1) := by decide +kernel
theorem d_Mo_along_94 : decode b_Mo_along 94 = .ok (.iaload, 1) := by decide +kernel
theorem d_Mo_along_95 : decode b_Mo_along 95 = .ok (.ireturn, 1) := by decide +kernel
theorem d_Mo_widest_0 : decode b_Mo_widest 0 = .ok (.iconst 0, 1) := by decide +kernel
theorem d_Mo_widest_1 : decode b_Mo_widest 1 = .ok (.istore 4, 2) := by decide +kernel
theorem d_Mo_widest_3 : decode b_Mo_widest 3 = .ok (.iconst 0, 1) := by decide +kernel
theorem d_Mo_widest_4 : decode b_Mo_widest 4 = .ok (.istore 5, 2) := by decide +kernel
theorem d_Mo_widest_6 : decode b_Mo_widest 6 = .ok (.iload 5, 2) := by decide +kernel
theorem d_Mo_widest_8 : decode b_Mo_widest 8 = .ok (.bipush 6, 2) := by decide +kernel
theorem d_Mo_widest_10 : decode b_Mo_widest 10 = .ok (.if_icmp .ge 54, 3) := by decide +kernel
theorem d_Mo_widest_13 : decode b_Mo_widest 13 = .ok (.iload_n 1, 1) := by decide +kernel
theorem d_Mo_widest_14 : decode b_Mo_widest 14 = .ok (.iload 5, 2) := by decide +kernel
theorem d_Mo_widest_16 : decode b_Mo_widest 16 = .ok (.invokestatic 90, 3) := by decide +kernel
theorem d_Mo_widest_19 : decode b_Mo_widest 19 = .ok (.ifCond .eq 20, 3) := by decide +kernel
theorem d_Mo_widest_22 : decode b_Mo_widest 22 = .ok (.aload_n 0, 1) := by decide +kernel
theorem d_Mo_widest_23 : decode b_Mo_widest 23 = .ok (.iload 5, 2) := by decide +kernel
theorem d_Mo_widest_25 : decode b_Mo_widest 25 = .ok (.aload_n 0, 1) := by decide +kernel
theorem d_Mo_widest_26 : decode b_Mo_widest 26 = .ok (.getfield 38, 3) := by decide +kernel
theorem d_Mo_widest_29 : decode b_Mo_widest 29 = .ok (.iload 5, 2) := by decide +kernel
theorem d_Mo_widest_31 : decode b_Mo_widest 31 = .ok (.iaload, 1) := by decide +kernel
theorem d_Mo_widest_32 : decode b_Mo_widest 32 = .ok (.iload_n 2, 1) := by decide +kernel
theorem d_Mo_widest_33 : decode b_Mo_widest 33 = .ok (.invokevirtual 93, 3) := by decide +kernel
theorem d_Mo_widest_36 : decode b_Mo_widest 36 = .ok (.goto 4, 3) := by decide +kernel
theorem d_Mo_widest_39 : decode b_Mo_widest 39 = .ok (.iconst 0, 1) := by decide +kernel
theorem d_Mo_widest_40 : decode b_Mo_widest 40 = .ok (.istore 6, 2) := by decide +kernel
theorem d_Mo_widest_42 : decode b_Mo_widest 42 = .ok (.iload 6, 2) := by decide +kernel
theorem d_Mo_widest_44 : decode b_Mo_widest 44 = .ok (.iload 4, 2) := by decide +kernel
theorem d_Mo_widest_46 : decode b_Mo_widest 46 = .ok (.if_icmp .le 8, 3) := by decide +kernel
theorem d_Mo_widest_49 : decode b_Mo_widest 49 = .ok (.iload 6, 2) := by decide +kernel
theorem d_Mo_widest_51 : decode b_Mo_widest 51 = .ok (.goto 5, 3) := by decide +kernel
theorem d_Mo_widest_54 : decode b_Mo_widest 54 = .ok (.iload 4, 2) := by decide +kernel
theorem d_Mo_widest_56 : decode b_Mo_widest 56 = .ok (.istore 4, 2) := by decide +kernel
theorem d_Mo_widest_58 : decode b_Mo_widest 58 = .ok (.iinc 5 1, 3) := by decide +kernel
theorem d_Mo_widest_61 : decode b_Mo_widest 61 = .ok (.goto (-55), 3) := by decide +kernel
theorem d_Mo_widest_64 : decode b_Mo_widest 64 = .ok (.iload 4, 2) := by decide +kernel
theorem d_Mo_widest_66 : decode b_Mo_widest 66 = .ok (.iconst 2, 1) := by decide +kernel
theorem d_Mo_widest_67 : decode b_Mo_widest 67 = .ok (.iload_n 3, 1) := by decide +kernel
theorem d_Mo_widest_68 : decode b_Mo_widest 68 = .ok (.imul, 1) := by decide +kernel
theorem d_Mo_widest_69 : decode b_Mo_widest 69 = .ok (.iadd, 1) := by decide +kernel
theorem d_Mo_widest_70 : decode b_Mo_widest 70 = .ok (.ireturn, 1) := by decide +kernel
theorem d_Mo_size_0 : decode b_Mo_size 0 = .ok (.aload_n 0, 1) := by decide +kernel
theorem d_Mo_size_1 : decode b_Mo_size 1 = .ok (.iload_n 1, 1) := by decide +kernel
theorem d_Mo_size_2 : decode b_Mo_size 2 = .ok (.iconst 0, 1) := by decide +kernel
theorem d_Mo_size_3 : decode b_Mo_size 3 = .ok (.iconst 2, 1) := by decide +kernel
theorem d_Mo_size_4 : decode b_Mo_size 4 = .ok (.invokestatic 66, 3) := by decide +kernel
theorem d_Mo_size_7 : decode b_Mo_size 7 = .ok (.aload_n 0, 1) := by decide +kernel
theorem d_Mo_size_8 : decode b_Mo_size 8 = .ok (.getfield 124, 3) := by decide +kernel
theorem d_Mo_size_11 : decode b_Mo_size 11 = .ok (.iconst 1, 1) := by decide +kernel
theorem d_Mo_size_12 : decode b_Mo_size 12 = .ok (.invokevirtual 71, 3) := by decide +kernel
theorem d_Mo_size_15 : decode b_Mo_size 15 = .ok (.ifCond .ne 5, 3) := by decide +kernel
theorem d_Mo_size_18 : decode b_Mo_size 18 = .ok (.iconst 0, 1) := by decide +kernel
theorem d_Mo_size_19 : decode b_Mo_size 19 = .ok (.ireturn, 1) := by decide +kernel
theorem d_Mo_size_20 : decode b_Mo_size 20 = .ok (.iload_n 1, 1) := by decide +kernel
theorem d_Mo_size_21 : decode b_Mo_size 21 = .ok (.ifCond .ne 10, 3) := by decide +kernel
theorem d_Mo_size_24 : decode b_Mo_size 24 = .ok (.aload_n 0, 1) := by decide +kernel
theorem d_Mo_size_25 : decode b_Mo_size 25 = .ok (.getfield 112, 3) := by decide +kernel
theorem d_Mo_size_28 : decode b_Mo_size 28 = .ok (.goto 19, 3) := by decide +kernel
theorem d_Mo_size_31 : decode b_Mo_size 31 = .ok (.iload_n 1, 1) := by decide +kernel
theorem d_Mo_size_32 : decode b_Mo_size 32 = .ok (.iconst 1, 1) := by decide +kernel
theorem d_Mo_size_33 : decode b_Mo_size 33 = .ok (.if_icmp .ne 10, 3) := by decide +kernel
theorem d_Mo_size_36 : decode b_Mo_size 36 = .ok (.aload_n 0, 1) := by decide +kernel
theorem d_Mo_size_37 : decode b_Mo_size 37 = .ok (.getfield 115, 3) := by decide +kernel
theorem d_Mo_size_40 : decode b_Mo_size 40 = .ok (.goto 7, 3) := by decide +kernel
theorem d_Mo_size_43 : decode b_Mo_size 43 = .ok (.aload_n 0, 1) := by decide +kernel
theorem d_Mo_size_44 : decode b_Mo_size 44 = .ok (.getfield 118, 3) := by decide +kernel
theorem d_Mo_size_47 : decode b_Mo_size 47 = .ok (.ireturn, 1) := by decide +kernel
theorem d_Mo_at_0 : decode b_Mo_at 0 = .ok (.aload_n 0, 1) := by decide +kernel
theorem d_Mo_at_1 : decode b_Mo_at 1 = .ok (.aload_n 0, 1) := by decide +kernel
theorem d_Mo_at_2 : decode b_Mo_at 2 = .ok (.iload_n 1, 1) := by decide +kernel
theorem d_Mo_at_3 : decode b_Mo_at 3 = .ok (.invokevirtual 75, 3) := by decide +kernel
theorem d_Mo_at_6 : decode b_Mo_at 6 = .ok (.ifCond .eq 16, 3) := by decide +kernel
theorem d_Mo_at_9 : decode b_Mo_at 9 = .ok (.iload_n 2, 1) := by decide +kernel
theorem d_Mo_at_10 : decode b_Mo_at 10 = .ok (.iconst (-1), 1) := by decide +kernel
theorem d_Mo_at_11 : decode b_Mo_at 11 = .ok (.iconst 0, 1) := by decide +kernel
theorem d_Mo_at_12 : decode b_Mo_at 12 = .ok (.invokestatic 66, 3) := by decide +kernel
theorem d_Mo_at_15 : decode b_Mo_at 15 = .ok (.ifCond .eq 7, 3) := by decide +kernel
theorem d_Mo_at_18 : decode b_Mo_at 18 = .ok (.iconst 1, 1) := by decide +kernel
theorem d_Mo_at_19 : decode b_Mo_at 19 = .ok (.goto 4, 3) := by decide +kernel
theorem d_Mo_at_22 : decode b_Mo_at 22 = .ok (.iconst 0, 1) := by decide +kernel
theorem d_Mo_at_23 : decode b_Mo_at 23 = .ok (.aload_n 0, 1) := by decide +kernel
theorem d_Mo_at_24 : decode b_Mo_at 24 = .ok (.getfield 124, 3) := by decide +kernel
theorem d_Mo_at_27 : decode b_Mo_at 27 = .ok (.iconst 1, 1) := by decide +kernel
theorem d_Mo_at_28 : decode b_Mo_at 28 = .ok (.invokevirtual 71, 3) := by decide +kernel
theorem d_Mo_at_31 : decode b_Mo_at 31 = .ok (.ifCond .ne 5, 3) := by decide +kernel
theorem d_Mo_at_34 : decode b_Mo_at 34 = .ok (.iconst 0, 1) := by decide +kernel
theorem d_Mo_at_35 : decode b_Mo_at 35 = .ok (.ireturn, 1) := by decide +kernel
theorem d_Mo_at_36 : decode b_Mo_at 36 = .ok (.aload_n 0, 1) := by decide +kernel
theorem d_Mo_at_37 : decode b_Mo_at 37 = .ok (.getfield 121, 3) := by decide +kernel
theorem d_Mo_at_40 : decode b_Mo_at 40 = .ok (.istore_n 3, 1) := by decide +kernel
theorem d_Mo_at_41 : decode b_Mo_at 41 = .ok (.iconst 0, 1) := by decide +kernel
theorem d_Mo_at_42 : decode b_Mo_at 42 = .ok (.istore 4, 2) := by decide +kernel
theorem d_Mo_at_44 : decode b_Mo_at 44 = .ok (.iload 4, 2) := by decide +kernel
theorem d_Mo_at_46 : decode b_Mo_at 46 = .ok (.iload_n 1, 1) := by decide +kernel
theorem d_Mo_at_47 : decode b_Mo_at 47 = .ok (.if_icmp .ge 46, 3) := by decide +kernel
theorem d_Mo_at_50 : decode b_Mo_at 50 = .ok (.aload_n 0, 1) := by decide +kernel
theorem d_Mo_at_51 : decode b_Mo_at 51 = .ok (.getfield 35, 3) := by decide +kernel
theorem d_Mo_at_54 : decode b_Mo_at 54 = .ok (.iload 4, 2) := by decide +kernel
theorem d_Mo_at_56 : decode b_Mo_at 56 = .ok (.iaload, 1) := by decide +kernel
theorem d_Mo_at_57 : decode b_Mo_at 57 = .ok (.iconst (-1), 1) := by decide +kernel
theorem d_Mo_at_58 : decode b_Mo_at 58 = .ok (.if_icmp .ne 7, 3) := by decide +kernel
theorem d_Mo_at_61 : decode b_Mo_at 61 = .ok (.iload_n 3, 1) := by decide +kernel
theorem d_Mo_at_62 : decode b_Mo_at 62 = .ok (.goto 24, 3) := by decide +kernel
theorem d_Mo_at_65 : decode b_Mo_at 65 = .ok (.iload_n 3, 1) := by decide +kernel
theorem d_Mo_at_66 : decode b_Mo_at 66 = .ok (.aload_n 0, 1) := by decide +kernel
theorem d_Mo_at_67 : decode b_Mo_at 67 = .ok (.iload 4, 2) := by decide +kernel
theorem d_Mo_at_69 : decode b_Mo_at 69 = .ok (.aload_n 0, 1) := by decide +kernel
theorem d_Mo_at_70 : decode b_Mo_at 70 = .ok (.getfield 35, 3) := by decide +kernel
theorem d_Mo_at_73 : decode b_Mo_at 73 = .ok (.iload 4, 2) := by decide +kernel
theorem d_Mo_at_75 : decode b_Mo_at 75 = .ok (.iaload, 1) := by decide +kernel
theorem d_Mo_at_76 : decode b_Mo_at 76 = .ok (.iconst 0, 1) := by decide +kernel
theorem d_Mo_at_77 : decode b_Mo_at 77 = .ok (.invokevirtual 93, 3) := by decide +kernel
theorem d_Mo_at_80 : decode b_Mo_at 80 = .ok (.iadd, 1) := by decide +kernel
theorem d_Mo_at_81 : decode b_Mo_at 81 = .ok (.aload_n 0, 1) := by decide +kernel
theorem d_Mo_at_82 : decode b_Mo_at 82 = .ok (.getfield 121, 3) := by decide +kernel
theorem d_Mo_at_85 : decode b_Mo_at 85 = .ok (.iadd, 1) := by decide +kernel
theorem d_Mo_at_86 : decode b_Mo_at 86 = .ok (.istore_n 3, 1) := by decide +kernel
theorem d_Mo_at_87 : decode b_Mo_at 87 = .ok (.iinc 4 1, 3) := by decide +kernel
theorem d_Mo_at_90 : decode b_Mo_at 90 = .ok (.goto (-46), 3) := by decide +kernel
theorem d_Mo_at_93 : decode b_Mo_at 93 = .ok (.iload_n 2, 1) := by decide +kernel
theorem d_Mo_at_94 : decode b_Mo_at 94 = .ok (.iconst (-1), 1) := by decide +kernel
theorem d_Mo_at_95 : decode b_Mo_at 95 = .ok (.if_icmp .eq 13, 3) := by decide +kernel
theorem d_Mo_at_98 : decode b_Mo_at 98 = .ok (.aload_n 0, 1) := by decide +kernel
theorem d_Mo_at_99 : decode b_Mo_at 99 = .ok (.getfield 35, 3) := by decide +kernel
theorem d_Mo_at_102 : decode b_Mo_at 102 = .ok (.iload_n 1, 1) := by decide +kernel
theorem d_Mo_at_103 : decode b_Mo_at 103 = .ok (.iaload, 1) := by decide +kernel
theorem d_Mo_at_104 : decode b_Mo_at 104 = .ok (.iconst (-1), 1) := by decide +kernel
theorem d_Mo_at_105 : decode b_Mo_at 105 = .ok (.if_icmp .ne 12, 3) := by decide +kernel
theorem d_Mo_at_108 : decode b_Mo_at 108 = .ok (.aload_n 0, 1) := by decide +kernel
theorem d_Mo_at_109 : decode b_Mo_at 109 = .ok (.getfield 35, 3) := by decide +kernel
theorem d_Mo_at_112 : decode b_Mo_at 112 = .ok (.iload_n 1, 1) := by decide +kernel
theorem d_Mo_at_113 : decode b_Mo_at 113 = .ok (.iaload, 1) := by decide +kernel
theorem d_Mo_at_114 : decode b_Mo_at 114 = .ok (.goto 4, 3) := by decide +kernel
theorem d_Mo_at_117 : decode b_Mo_at 117 = .ok (.iload_n 3, 1) := by decide +kernel
theorem d_Mo_at_118 : decode b_Mo_at 118 = .ok (.ireturn, 1) := by decide +kernel
theorem d_Mo_crate_0 : decode b_Mo_crate 0 = .ok (.aload_n 0, 1) := by decide +kernel
theorem d_Mo_crate_1 : decode b_Mo_crate 1 = .ok (.aload_n 0, 1) := by decide +kernel
theorem d_Mo_crate_2 : decode b_Mo_crate 2 = .ok (.getfield 128, 3) := by decide +kernel
theorem d_Mo_crate_5 : decode b_Mo_crate 5 = .ok (.bipush 10, 2) := by decide +kernel
theorem d_Mo_crate_7 : decode b_Mo_crate 7 = .ok (.if_icmp .ge 7, 3) := by decide +kernel
theorem d_Mo_crate_10 : decode b_Mo_crate 10 = .ok (.iconst 1, 1) := by decide +kernel
theorem d_Mo_crate_11 : decode b_Mo_crate 11 = .ok (.goto 4, 3) := by decide +kernel
theorem d_Mo_crate_14 : decode b_Mo_crate 14 = .ok (.iconst 0, 1) := by decide +kernel
theorem d_Mo_crate_15 : decode b_Mo_crate 15 = .ok (.iload_n 1, 1) := by decide +kernel
theorem d_Mo_crate_16 : decode b_Mo_crate 16 = .ok (.iconst 1, 1) := by decide +kernel
theorem d_Mo_crate_17 : decode b_Mo_crate 17 = .ok (.sipush 2000, 3) := by decide +kernel
theorem d_Mo_crate_20 : decode b_Mo_crate 20 = .ok (.invokestatic 66, 3) := by decide +kernel
theorem d_Mo_crate_23 : decode b_Mo_crate 23 = .ok (.ifCond .eq 29, 3) := by decide +kernel
theorem d_Mo_crate_26 : decode b_Mo_crate 26 = .ok (.iload_n 2, 1) := by decide +kernel
theorem d_Mo_crate_27 : decode b_Mo_crate 27 = .ok (.iconst 1, 1) := by decide +kernel
theorem d_Mo_crate_28 : decode b_Mo_crate 28 = .ok (.sipush 2000, 3) := by decide +kernel
theorem d_Mo_crate_31 : decode b_Mo_crate 31 = .ok (.invokestatic 66, 3) := by decide +kernel
theorem d_Mo_crate_34 : decode b_Mo_crate 34 = .ok (.ifCond .eq 18, 3) := by decide +kernel
theorem d_Mo_crate_37 : decode b_Mo_crate 37 = .ok (.iload_n 3, 1) := by decide +kernel
theorem d_Mo_crate_38 : decode b_Mo_crate 38 = .ok (.iconst 1, 1) := by decide +kernel
theorem d_Mo_crate_39 : decode b_Mo_crate 39 = .ok (.sipush 2000, 3) := by decide +kernel
theorem d_Mo_crate_42 : decode b_Mo_crate 42 = .ok (.invokestatic 66, 3) := by decide +kernel
theorem d_Mo_crate_45 : decode b_Mo_crate 45 = .ok (.ifCond .eq 7, 3) := by decide +kernel
theorem d_Mo_crate_48 : decode b_Mo_crate 48 = .ok (.iconst 1, 1) := by decide +kernel
theorem d_Mo_crate_49 : decode b_Mo_crate 49 = .ok (.goto 4, 3) := by decide +kernel
theorem d_Mo_crate_52 : decode b_Mo_crate 52 = .ok (.iconst 0, 1) := by decide +kernel
theorem d_Mo_crate_53 : decode b_Mo_crate 53 = .ok (.iconst 1, 1) := by decide +kernel
theorem d_Mo_crate_54 : decode b_Mo_crate 54 = .ok (.invokevirtual 71, 3) := by decide +kernel
theorem d_Mo_crate_57 : decode b_Mo_crate 57 = .ok (.ifCond .ne 5, 3) := by decide +kernel
theorem d_Mo_crate_60 : decode b_Mo_crate 60 = .ok (.iconst 0, 1) := by decide +kernel
theorem d_Mo_crate_61 : decode b_Mo_crate 61 = .ok (.ireturn, 1) := by decide +kernel
theorem d_Mo_crate_62 : decode b_Mo_crate 62 = .ok (.aload_n 0, 1) := by decide +kernel
theorem d_Mo_crate_63 : decode b_Mo_crate 63 = .ok (.getfield 44, 3) := by decide +kernel
theorem d_Mo_crate_66 : decode b_Mo_crate 66 = .ok (.iconst 3, 1) := by decide +kernel
theorem d_Mo_crate_67 : decode b_Mo_crate 67 = .ok (.aload_n 0, 1) := by decide +kernel
theorem d_Mo_crate_68 : decode b_Mo_crate 68 = .ok (.getfield 128, 3) := by decide +kernel
theorem d_Mo_crate_71 : decode b_Mo_crate 71 = .ok (.imul, 1) := by decide +kernel
theorem d_Mo_crate_72 : decode b_Mo_crate 72 = .ok (.iload_n 1, 1) := by decide +kernel
theorem d_Mo_crate_73 : decode b_Mo_crate 73 = .ok (.iastore, 1) := by decide +kernel
theorem d_Mo_crate_74 : decode b_Mo_crate 74 = .ok (.aload_n 0, 1) := by decide +kernel
theorem d_Mo_crate_75 : decode b_Mo_crate 75 = .ok (.getfield 44, 3) := by decide +kernel
theorem d_Mo_crate_78 : decode b_Mo_crate 78 = .ok (.iconst 3, 1) := by decide +kernel
theorem d_Mo_crate_79 : decode b_Mo_crate 79 = .ok (.aload_n 0, 1) := by decide +kernel
theorem d_Mo_crate_80 : decode b_Mo_crate 80 = .ok (.getfield 128, 3) := by decide +kernel
theorem d_Mo_crate_83 : decode b_Mo_crate 83 = .ok (.imul, 1) := by decide +kernel
theorem d_Mo_crate_84 : decode b_Mo_crate 84 = .ok (.iconst 1, 1) := by decide +kernel
theorem d_Mo_crate_85 : decode b_Mo_crate 85 = .ok (.iadd, 1) := by decide +kernel
theorem d_Mo_crate_86 : decode b_Mo_crate 86 = .ok (.iload_n 2, 1) := by decide +kernel
theorem d_Mo_crate_87 : decode b_Mo_crate 87 = .ok (.iastore, 1) := by decide +kernel
theorem d_Mo_crate_88 : decode b_Mo_crate 88 = .ok (.aload_n 0, 1) := by decide +kernel
theorem d_Mo_crate_89 : decode b_Mo_crate 89 = .ok (.getfield 44, 3) := by decide +kernel
theorem d_Mo_crate_92 : decode b_Mo_crate 92 = .ok (.iconst 3, 1) := by decide +kernel
theorem d_Mo_crate_93 : decode b_Mo_crate 93 = .ok (.aload_n 0, 1) := by decide +kernel
theorem d_Mo_crate_94 : decode b_Mo_crate 94 = .ok (.getfield 128, 3) := by decide +kernel
theorem d_Mo_crate_97 : decode b_Mo_crate 97 = .ok (.imul, 1) := by decide +kernel
theorem d_Mo_crate_98 : decode b_Mo_crate 98 = .ok (.iconst 2, 1) := by decide +kernel
theorem d_Mo_crate_99 : decode b_Mo_crate 99 = .ok (.iadd, 1) := by decide +kernel
theorem d_Mo_crate_100 : decode b_Mo_crate 100 = .ok (.iload_n 3, 1) := by decide +kernel
theorem d_Mo_crate_101 : decode b_Mo_crate 101 = .ok (.iastore, 1) := by decide +kernel
theorem d_Mo_crate_102 : decode b_Mo_crate 102 = .ok (.aload_n 0, 1) := by decide +kernel
theorem d_Mo_crate_103 : decode b_Mo_crate 103 = .ok (.dup, 1) := by decide +kernel
theorem d_Mo_crate_104 : decode b_Mo_crate 104 = .ok (.getfield 128, 3) := by decide +kernel
theorem d_Mo_crate_107 : decode b_Mo_crate 107 = .ok (.iconst 1, 1) := by decide +kernel
theorem d_Mo_crate_108 : decode b_Mo_crate 108 = .ok (.iadd, 1) := by decide +kernel
theorem d_Mo_crate_109 : decode b_Mo_crate 109 = .ok (.putfield 128, 3) := by decide +kernel
theorem d_Mo_crate_112 : decode b_Mo_crate 112 = .ok (.aload_n 0, 1) := by decide +kernel
theorem d_Mo_crate_113 : decode b_Mo_crate 113 = .ok (.getfield 128, 3) := by decide +kernel
theorem d_Mo_crate_116 : decode b_Mo_crate 116 = .ok (.iconst 1, 1) := by decide +kernel
theorem d_Mo_crate_117 : decode b_Mo_crate 117 = .ok (.isub, 1) := by decide +kernel
theorem d_Mo_crate_118 : decode b_Mo_crate 118 = .ok (.ireturn, 1) := by decide +kernel
theorem d_Mo_match_0 : decode b_Mo_match 0 = .ok (.aload_n 0, 1) := by decide +kernel
theorem d_Mo_match_1 : decode b_Mo_match 1 = .ok (.aload_n 0, 1) := by decide +kernel
theorem d_Mo_match_2 : decode b_Mo_match 2 = .ok (.getfield 124, 3) := by decide +kernel
theorem d_Mo_match_5 : decode b_Mo_match 5 = .ok (.iconst 1, 1) := by decide +kernel
theorem d_Mo_match_6 : decode b_Mo_match 6 = .ok (.iconst 1, 1) := by decide +kernel
theorem d_Mo_match_7 : decode b_Mo_match 7 = .ok (.invokevirtual 71, 3) := by decide +kernel
theorem d_Mo_match_10 : decode b_Mo_match 10 = .ok (.ifCond .ne 5, 3) := by decide +kernel
theorem d_Mo_match_13 : decode b_Mo_match 13 = .ok (.iconst 0, 1) := by decide +kernel
theorem d_Mo_match_14 : decode b_Mo_match 14 = .ok (.ireturn, 1) := by decide +kernel
theorem d_Mo_match_15 : decode b_Mo_match 15 = .ok (.iconst (-1), 1) := by decide +kernel
theorem d_Mo_match_16 : decode b_Mo_match 16 = .ok (.istore_n 1, 1) := by decide +kernel
theorem d_Mo_match_17 : decode b_Mo_match 17 = .ok (.lconst 0, 1) := by decide +kernel
theorem d_Mo_match_18 : decode b_Mo_match 18 = .ok (.lstore_n 2, 1) := by decide +kernel
theorem d_Mo_match_19 : decode b_Mo_match 19 = .ok (.iconst 0, 1) := by decide +kernel
theorem d_Mo_match_20 : decode b_Mo_match 20 = .ok (.istore 4, 2) := by decide +kernel
theorem d_Mo_match_22 : decode b_Mo_match 22 = .ok (.iload 4, 2) := by decide +kernel
theorem d_Mo_match_24 : decode b_Mo_match 24 = .ok (.aload_n 0, 1) := by decide +kernel
theorem d_Mo_match_25 : decode b_Mo_match 25 = .ok (.getfield 128, 3) := by decide +kernel
theorem d_Mo_match_28 : decode b_Mo_match 28 = .ok (.if_icmp .ge 84, 3) := by decide +kernel
theorem d_Mo_match_31 : decode b_Mo_match 31 = .ok (.aload_n 0, 1) := by decide +kernel
theorem d_Mo_match_32 : decode b_Mo_match 32 = .ok (.getfield 44, 3) := by decide +kernel
theorem d_Mo_match_35 : decode b_Mo_match 35 = .ok (.iconst 3, 1) := by decide +kernel
theorem d_Mo_match_36 : decode b_Mo_match 36 = .ok (.iload 4, 2) := by decide +kernel
theorem d_Mo_match_38 : decode b_Mo_match 38 = .ok (.imul, 1) := by decide +kernel
theorem d_Mo_match_39 : decode b_Mo_match 39 = .ok (.iaload, 1) := by decide +kernel
theorem d_Mo_match_40 : decode b_Mo_match 40 = .ok (.i2l, 1) := by decide +kernel
theorem d_Mo_match_41 : decode b_Mo_match 41 = .ok (.aload_n 0, 1) := by decide +kernel
theorem d_Mo_match_42 : decode b_Mo_match 42 = .ok (.getfield 44, 3) := by decide +kernel
theorem d_Mo_match_45 : decode b_Mo_match 45 = .ok (.iconst 3, 1) := by decide +kernel
theorem d_Mo_match_46 : decode b_Mo_match 46 = .ok (.iload 4, 2) := by decide +kernel
theorem d_Mo_match_48 : decode b_Mo_match 48 = .ok (.imul, 1) := by decide +kernel
theorem d_Mo_match_49 : decode b_Mo_match 49 = .ok (.iconst 1, 1) := by decide +kernel
theorem d_Mo_match_50 : decode b_Mo_match 50 = .ok (.iadd, 1) := by decide +kernel
theorem d_Mo_match_51 : decode b_Mo_match 51 = .ok (.iaload, 1) := by decide +kernel
theorem d_Mo_match_52 : decode b_Mo_match 52 = .ok (.i2l, 1) := by decide +kernel
theorem d_Mo_match_53 : decode b_Mo_match 53 = .ok (.lmul, 1) := by decide +kernel
theorem d_Mo_match_54 : decode b_Mo_match 54 = .ok (.aload_n 0, 1) := by decide +kernel
theorem d_Mo_match_55 : decode b_Mo_match 55 = .ok (.getfield 44, 3) := by decide +kernel
theorem d_Mo_match_58 : decode b_Mo_match 58 = .ok (.iconst 3, 1) := by decide +kernel
theorem d_Mo_match_59 : decode b_Mo_match 59 = .ok (.iload 4, 2) := by decide +kernel
theorem d_Mo_match_61 : decode b_Mo_match 61 = .ok (.imul, 1) := by decide +kernel
theorem d_Mo_match_62 : decode b_Mo_match 62 = .ok (.iconst 2, 1) := by decide +kernel
theorem d_Mo_match_63 : decode b_Mo_match 63 = .ok (.iadd, 1) := by decide +kernel
theorem d_Mo_match_64 : decode b_Mo_match 64 = .ok (.iaload, 1) := by decide +kernel
theorem d_Mo_match_65 : decode b_Mo_match 65 = .ok (.i2l, 1) := by decide +kernel
theorem d_Mo_match_66 : decode b_Mo_match 66 = .ok (.lmul, 1) := by decide +kernel
theorem d_Mo_match_67 : decode b_Mo_match 67 = .ok (.lstore 5, 2) := by decide +kernel
theorem d_Mo_match_69 : decode b_Mo_match 69 = .ok (.aload_n 0, 1) := by decide +kernel
theorem d_Mo_match_70 : decode b_Mo_match 70 = .ok (.getfield 47, 3) := by decide +kernel
theorem d_Mo_match_73 : decode b_Mo_match 73 = .ok (.iload 4, 2) := by decide +kernel
theorem d_Mo_match_75 : decode b_Mo_match 75 = .ok (.baload, 1) := by decide +kernel
theorem d_Mo_match_76 : decode b_Mo_match 76 = .ok (.ifCond .ne 30, 3) := by decide +kernel
theorem d_Mo_match_79 : decode b_Mo_match 79 = .ok (.aload_n 0, 1) := by decide +kernel
theorem d_Mo_match_80 : decode b_Mo_match 80 = .ok (.iload 4, 2) := by decide +kernel
theorem d_Mo_match_82 : decode b_Mo_match 82 = .ok (.invokevirtual 131, 3) := by decide +kernel
theorem d_Mo_match_85 : decode b_Mo_match 85 = .ok (.ifCond .eq 21, 3) := by decide +kernel
theorem d_Mo_match_88 : decode b_Mo_match 88 = .ok (.iload_n 1, 1) := by decide +kernel
theorem d_Mo_match_89 : decode b_Mo_match 89 = .ok (.iconst (-1), 1) := by decide +kernel
theorem d_Mo_match_90 : decode b_Mo_match 90 = .ok (.if_icmp .eq 10, 3) := by decide +kernel
theorem d_Mo_match_93 : decode b_Mo_match 93 = .ok (.lload 5, 2) := by decide +kernel
theorem d_Mo_match_95 : decode b_Mo_match 95 = .ok (.lload_n 2, 1) := by decide +kernel
theorem d_Mo_match_96 : decode b_Mo_match 96 = .ok (.lcmp, 1) := by decide +kernel
theorem d_Mo_match_97 : decode b_Mo_match 97 = .ok (.ifCond .ge 9, 3) := by decide +kernel
theorem d_Mo_match_100 : decode b_Mo_match 100 = .ok (.iload 4, 2) := by decide +kernel
theorem d_Mo_match_102 : decode b_Mo_match 102 = .ok (.istore_n 1, 1) := by decide +kernel
theorem d_Mo_match_103 : decode b_Mo_match 103 = .ok (.lload 5, 2) := by decide +kernel
theorem d_Mo_match_105 : decode b_Mo_match 105 = .ok (.lstore_n 2, 1) := by decide +kernel
theorem d_Mo_match_106 : decode b_Mo_match 106 = .ok (.iinc 4 1, 3) := by decide +kernel
theorem d_Mo_match_109 : decode b_Mo_match 109 = .ok (.goto (-87), 3) := by decide +kernel
theorem d_Mo_match_112 : decode b_Mo_match 112 = .ok (.iload_n 1, 1) := by decide +kernel
theorem d_Mo_match_113 : decode b_Mo_match 113 = .ok (.iconst (-1), 1) := by decide +kernel
theorem d_Mo_match_114 : decode b_Mo_match 114 = .ok (.if_icmp .eq 10, 3) := by decide +kernel
theorem d_Mo_match_117 : decode b_Mo_match 117 = .ok (.aload_n 0, 1) := by decide +kernel
theorem d_Mo_match_118 : decode b_Mo_match 118 = .ok (.getfield 47, 3) := by decide +kernel
theorem d_Mo_match_121 : decode b_Mo_match 121 = .ok (.iload_n 1, 1) := by decide +kernel
theorem d_Mo_match_122 : decode b_Mo_match 122 = .ok (.iconst 1, 1) := by decide +kernel
theorem d_Mo_match_123 : decode b_Mo_match 123 = .ok (.bastore, 1) := by decide +kernel
theorem d_Mo_match_124 : decode b_Mo_match 124 = .ok (.iload_n 1, 1) := by decide +kernel
theorem d_Mo_match_125 : decode b_Mo_match 125 = .ok (.ireturn, 1) := by decide +kernel
theorem d_Mo_hasRoom_0 : decode b_Mo_hasRoom 0 = .ok (.aload_n 0, 1) := by decide +kernel
theorem d_Mo_hasRoom_1 : decode b_Mo_hasRoom 1 = .ok (.getfield 44, 3) := by decide +kernel
theorem d_Mo_hasRoom_4 : decode b_Mo_hasRoom 4 = .ok (.iconst 3, 1) := by decide +kernel
theorem d_Mo_hasRoom_5 : decode b_Mo_hasRoom 5 = .ok (.iload_n 1, 1) := by decide +kernel
theorem d_Mo_hasRoom_6 : decode b_Mo_hasRoom 6 = .ok (.imul, 1) := by decide +kernel
theorem d_Mo_hasRoom_7 : decode b_Mo_hasRoom 7 = .ok (.iaload, 1) := by decide +kernel
theorem d_Mo_hasRoom_8 : decode b_Mo_hasRoom 8 = .ok (.istore_n 2, 1) := by decide +kernel
theorem d_Mo_hasRoom_9 : decode b_Mo_hasRoom 9 = .ok (.aload_n 0, 1) := by decide +kernel
theorem d_Mo_hasRoom_10 : decode b_Mo_hasRoom 10 = .ok (.getfield 44, 3) := by decide +kernel
theorem d_Mo_hasRoom_13 : decode b_Mo_hasRoom 13 = .ok (.iconst 3, 1) := by decide +kernel
theorem d_Mo_hasRoom_14 : decode b_Mo_hasRoom 14 = .ok (.iload_n 1, 1) := by decide +kernel
theorem d_Mo_hasRoom_15 : decode b_Mo_hasRoom 15 = .ok (.imul, 1) := by decide +kernel
theorem d_Mo_hasRoom_16 : decode b_Mo_hasRoom 16 = .ok (.iconst 1, 1) := by decide +kernel
theorem d_Mo_hasRoom_17 : decode b_Mo_hasRoom 17 = .ok (.iadd, 1) := by decide +kernel
theorem d_Mo_hasRoom_18 : decode b_Mo_hasRoom 18 = .ok (.iaload, 1) := by decide +kernel
theorem d_Mo_hasRoom_19 : decode b_Mo_hasRoom 19 = .ok (.istore_n 3, 1) := by decide +kernel
theorem d_Mo_hasRoom_20 : decode b_Mo_hasRoom 20 = .ok (.aload_n 0, 1) := by decide +kernel
theorem d_Mo_hasRoom_21 : decode b_Mo_hasRoom 21 = .ok (.getfield 112, 3) := by decide +kernel
theorem d_Mo_hasRoom_24 : decode b_Mo_hasRoom 24 = .ok (.iload_n 2, 1) := by decide +kernel
theorem d_Mo_hasRoom_25 : decode b_Mo_hasRoom 25 = .ok (.if_icmp .gt 15, 3) := by decide +kernel
theorem d_Mo_hasRoom_28 : decode b_Mo_hasRoom 28 = .ok (.aload_n 0, 1) := by decide +kernel
theorem d_Mo_hasRoom_29 : decode b_Mo_hasRoom 29 = .ok (.getfield 115, 3) := by decide +kernel
theorem d_Mo_hasRoom_32 : decode b_Mo_hasRoom 32 = .ok (.iload_n 3, 1) := by decide +kernel
theorem d_Mo_hasRoom_33 : decode b_Mo_hasRoom 33 = .ok (.if_icmp .gt 7, 3) := by decide +kernel
theorem d_Mo_hasRoom_36 : decode b_Mo_hasRoom 36 = .ok (.iconst 1, 1) := by decide +kernel
theorem d_Mo_hasRoom_37 : decode b_Mo_hasRoom 37 = .ok (.goto 4, 3) := by decide +kernel
theorem d_Mo_hasRoom_40 : decode b_Mo_hasRoom 40 = .ok (.iconst 0, 1) := by decide +kernel
theorem d_Mo_hasRoom_41 : decode b_Mo_hasRoom 41 = .ok (.istore 4, 2) := by decide +kernel
theorem d_Mo_hasRoom_43 : decode b_Mo_hasRoom 43 = .ok (.aload_n 0, 1) := by decide +kernel
theorem d_Mo_hasRoom_44 : decode b_Mo_hasRoom 44 = .ok (.getfield 112, 3) := by decide +kernel
theorem d_Mo_hasRoom_47 : decode b_Mo_hasRoom 47 = .ok (.iload_n 3, 1) := by decide +kernel
theorem d_Mo_hasRoom_48 : decode b_Mo_hasRoom 48 = .ok (.if_icmp .gt 15, 3) := by decide +kernel
theorem d_Mo_hasRoom_51 : decode b_Mo_hasRoom 51 = .ok (.aload_n 0, 1) := by decide +kernel
theorem d_Mo_hasRoom_52 : decode b_Mo_hasRoom 52 = .ok (.getfield 115, 3) := by decide +kernel
theorem d_Mo_hasRoom_55 : decode b_Mo_hasRoom 55 = .ok (.iload_n 2, 1) := by decide +kernel
theorem d_Mo_hasRoom_56 : decode b_Mo_hasRoom 56 = .ok (.if_icmp .gt 7, 3) := by decide +kernel
theorem d_Mo_hasRoom_59 : decode b_Mo_hasRoom 59 = .ok (.iconst 1, 1) := by decide +kernel
theorem d_Mo_hasRoom_60 : decode b_Mo_hasRoom 60 = .ok (.goto 4, 3) := by decide +kernel
theorem d_Mo_hasRoom_63 : decode b_Mo_hasRoom 63 = .ok (.iconst 0, 1) := by decide +kernel
theorem d_Mo_hasRoom_64 : decode b_Mo_hasRoom 64 = .ok (.istore 5, 2) := by decide +kernel
theorem d_Mo_hasRoom_66 : decode b_Mo_hasRoom 66 = .ok (.iload 4, 2) := by decide +kernel
theorem d_Mo_hasRoom_68 : decode b_Mo_hasRoom 68 = .ok (.ifCond .ne 8, 3) := by decide +kernel
theorem d_Mo_hasRoom_71 : decode b_Mo_hasRoom 71 = .ok (.iload 5, 2) := by decide +kernel
theorem d_Mo_hasRoom_73 : decode b_Mo_hasRoom 73 = .ok (.ifCond .eq 24, 3) := by decide +kernel
theorem d_Mo_hasRoom_76 : decode b_Mo_hasRoom 76 = .ok (.aload_n 0, 1) := by decide +kernel
theorem d_Mo_hasRoom_77 : decode b_Mo_hasRoom 77 = .ok (.getfield 118, 3) := by decide +kernel
theorem d_Mo_hasRoom_80 : decode b_Mo_hasRoom 80 = .ok (.aload_n 0, 1) := by decide +kernel
theorem d_Mo_hasRoom_81 : decode b_Mo_hasRoom 81 = .ok (.getfield 44, 3) := by decide +kernel
theorem d_Mo_hasRoom_84 : decode b_Mo_hasRoom 84 = .ok (.iconst 3, 1) := by decide +kernel
theorem d_Mo_hasRoom_85 : decode b_Mo_hasRoom 85 = .ok (.iload_n 1, 1) := by decide +kernel
theorem d_Mo_hasRoom_86 : decode b_Mo_hasRoom 86 = .ok (.imul, 1) := by decide +kernel
theorem d_Mo_hasRoom_87 : decode b_Mo_hasRoom 87 = .ok (.iconst 2, 1) := by decide +kernel
theorem d_Mo_hasRoom_88 : decode b_Mo_hasRoom 88 = .ok (.iadd, 1) := by decide +kernel
theorem d_Mo_hasRoom_89 : decode b_Mo_hasRoom 89 = .ok (.iaload, 1) := by decide +kernel
theorem d_Mo_hasRoom_90 : decode b_Mo_hasRoom 90 = .ok (.if_icmp .gt 7, 3) := by decide +kernel
theorem d_Mo_hasRoom_93 : decode b_Mo_hasRoom 93 = .ok (.iconst 1, 1) := by decide +kernel
theorem d_Mo_hasRoom_94 : decode b_Mo_hasRoom 94 = .ok (.goto 4, 3) := by decide +kernel
theorem d_Mo_hasRoom_97 : decode b_Mo_hasRoom 97 = .ok (.iconst 0, 1) := by decide +kernel
theorem d_Mo_hasRoom_98 : decode b_Mo_hasRoom 98 = .ok (.ireturn, 1) := by decide +kernel
theorem d_Mo_free_0 : decode b_Mo_free 0 = .ok (.aload_n 0, 1) := by decide +kernel
theorem d_Mo_free_1 : decode b_Mo_free 1 = .ok (.iload_n 1, 1) := by decide +kernel
theorem d_Mo_free_2 : decode b_Mo_free 2 = .ok (.ifCond .lt 15, 3) := by decide +kernel
theorem d_Mo_free_5 : decode b_Mo_free 5 = .ok (.iload_n 1, 1) := by decide +kernel
theorem d_Mo_free_6 : decode b_Mo_free 6 = .ok (.aload_n 0, 1) := by decide +kernel
theorem d_Mo_free_7 : decode b_Mo_free 7 = .ok (.getfield 128, 3) := by decide +kernel
theorem d_Mo_free_10 : decode b_Mo_free 10 = .ok (.if_icmp .ge 7, 3) := by decide +kernel
theorem d_Mo_free_13 : decode b_Mo_free 13 = .ok (.iconst 1, 1) := by decide +kernel
theorem d_Mo_free_14 : decode b_Mo_free 14 = .ok (.goto 4, 3) := by decide +kernel
theorem d_Mo_free_17 : decode b_Mo_free 17 = .ok (.iconst 0, 1) := by decide +kernel
theorem d_Mo_free_18 : decode b_Mo_free 18 = .ok (.iconst 1, 1) := by decide +kernel
theorem d_Mo_free_19 : decode b_Mo_free 19 = .ok (.iconst 1, 1) := by decide +kernel
theorem d_Mo_free_20 : decode b_Mo_free 20 = .ok (.invokevirtual 71, 3) := by decide +kernel
theorem d_Mo_free_23 : decode b_Mo_free 23 = .ok (.ifCond .ne 5, 3) := by decide +kernel
theorem d_Mo_free_26 : decode b_Mo_free 26 = .ok (.iconst 0, 1) := by decide +kernel
theorem d_Mo_free_27 : decode b_Mo_free 27 = .ok (.ireturn, 1) := by decide +kernel
theorem d_Mo_free_28 : decode b_Mo_free 28 = .ok (.aload_n 0, 1) := by decide +kernel
theorem d_Mo_free_29 : decode b_Mo_free 29 = .ok (.getfield 47, 3) := by decide +kernel
theorem d_Mo_free_32 : decode b_Mo_free 32 = .ok (.iload_n 1, 1) := by decide +kernel
theorem d_Mo_free_33 : decode b_Mo_free 33 = .ok (.baload, 1) := by decide +kernel
theorem d_Mo_free_34 : decode b_Mo_free 34 = .ok (.istore_n 2, 1) := by decide +kernel
theorem d_Mo_free_35 : decode b_Mo_free 35 = .ok (.aload_n 0, 1) := by decide +kernel
theorem d_Mo_free_36 : decode b_Mo_free 36 = .ok (.getfield 47, 3) := by decide +kernel
theorem d_Mo_free_39 : decode b_Mo_free 39 = .ok (.iload_n 1, 1) := by decide +kernel
theorem d_Mo_free_40 : decode b_Mo_free 40 = .ok (.iconst 0, 1) := by decide +kernel
theorem d_Mo_free_41 : decode b_Mo_free 41 = .ok (.bastore, 1) := by decide +kernel
theorem d_Mo_free_42 : decode b_Mo_free 42 = .ok (.iload_n 2, 1) := by decide +kernel
theorem d_Mo_free_43 : decode b_Mo_free 43 = .ok (.ireturn, 1) := by decide +kernel
theorem d_Mo_split_0 : decode b_Mo_split 0 = .ok (.aload_n 0, 1) := by decide +kernel
theorem d_Mo_split_1 : decode b_Mo_split 1 = .ok (.iload_n 1, 1) := by decide +kernel
theorem d_Mo_split_2 : decode b_Mo_split 2 = .ok (.iconst 1, 1) := by decide +kernel
theorem d_Mo_split_3 : decode b_Mo_split 3 = .ok (.if_icmp .lt 7, 3) := by decide +kernel
theorem d_Mo_split_6 : decode b_Mo_split 6 = .ok (.iconst 1, 1) := by decide +kernel
theorem d_Mo_split_7 : decode b_Mo_split 7 = .ok (.goto 4, 3) := by decide +kernel
theorem d_Mo_split_10 : decode b_Mo_split 10 = .ok (.iconst 0, 1) := by decide +kernel
theorem d_Mo_split_11 : decode b_Mo_split 11 = .ok (.iconst 1, 1) := by decide +kernel
theorem d_Mo_split_12 : decode b_Mo_split 12 = .ok (.iconst 1, 1) := by decide +kernel
theorem d_Mo_split_13 : decode b_Mo_split 13 = .ok (.invokevirtual 71, 3) := by decide +kernel
theorem d_Mo_split_16 : decode b_Mo_split 16 = .ok (.ifCond .ne 5, 3) := by decide +kernel
theorem d_Mo_split_19 : decode b_Mo_split 19 = .ok (.iconst 0, 1) := by decide +kernel
theorem d_Mo_split_20 : decode b_Mo_split 20 = .ok (.ireturn, 1) := by decide +kernel
theorem d_Mo_split_21 : decode b_Mo_split 21 = .ok (.iconst 1, 1) := by decide +kernel
theorem d_Mo_split_22 : decode b_Mo_split 22 = .ok (.aload_n 0, 1) := by decide +kernel
theorem d_Mo_split_23 : decode b_Mo_split 23 = .ok (.getfield 63, 3) := by decide +kernel
theorem d_Mo_split_26 : decode b_Mo_split 26 = .ok (.ishl, 1) := by decide +kernel
theorem d_Mo_split_27 : decode b_Mo_split 27 = .ok (.istore_n 2, 1) := by decide +kernel
theorem d_Mo_split_28 : decode b_Mo_split 28 = .ok (.iconst 0, 1) := by decide +kernel
theorem d_Mo_split_29 : decode b_Mo_split 29 = .ok (.istore_n 3, 1) := by decide +kernel
theorem d_Mo_split_30 : decode b_Mo_split 30 = .ok (.iload_n 3, 1) := by decide +kernel
theorem d_Mo_split_31 : decode b_Mo_split 31 = .ok (.iload_n 2, 1) := by decide +kernel
theorem d_Mo_split_32 : decode b_Mo_split 32 = .ok (.if_icmp .ge 117, 3) := by decide +kernel
theorem d_Mo_split_35 : decode b_Mo_split 35 = .ok (.aload_n 0, 1) := by decide +kernel
theorem d_Mo_split_36 : decode b_Mo_split 36 = .ok (.getfield 41, 3) := by decide +kernel
theorem d_Mo_split_39 : decode b_Mo_split 39 = .ok (.iload_n 3, 1) := by decide +kernel
theorem d_Mo_split_40 : decode b_Mo_split 40 = .ok (.iload_n 3, 1) := by decide +kernel
theorem d_Mo_split_41 : decode b_Mo_split 41 = .ok (.ifCond .ne 7, 3) := by decide +kernel
theorem d_Mo_split_44 : decode b_Mo_split 44 = .ok (.iconst 0, 1) := by decide +kernel
theorem d_Mo_split_45 : decode b_Mo_split 45 = .ok (.goto 5, 3) := by decide +kernel
theorem d_Mo_split_48 : decode b_Mo_split 48 = .ok (.bipush 99, 2) := by decide +kernel
theorem d_Mo_split_50 : decode b_Mo_split 50 = .ok (.iastore, 1) := by decide +kernel
theorem d_Mo_split_51 : decode b_Mo_split 51 = .ok (.iconst 1, 1) := by decide +kernel
theorem d_Mo_split_52 : decode b_Mo_split 52 = .ok (.istore 4, 2) := by decide +kernel
theorem d_Mo_split_54 : decode b_Mo_split 54 = .ok (.iload 4, 2) := by decide +kernel
theorem d_Mo_split_56 : decode b_Mo_split 56 = .ok (.iload_n 3, 1) := by decide +kernel
theorem d_Mo_split_57 : decode b_Mo_split 57 = .ok (.if_icmp .gt 86, 3) := by decide +kernel
theorem d_Mo_split_60 : decode b_Mo_split 60 = .ok (.iload 4, 2) := by decide +kernel
theorem d_Mo_split_62 : decode b_Mo_split 62 = .ok (.iload_n 3, 1) := by decide +kernel
theorem d_Mo_split_63 : decode b_Mo_split 63 = .ok (.iand, 1) := by decide +kernel
theorem d_Mo_split_64 : decode b_Mo_split 64 = .ok (.iload 4, 2) := by decide +kernel
theorem d_Mo_split_66 : decode b_Mo_split 66 = .ok (.if_icmp .ne 17, 3) := by decide +kernel
theorem d_Mo_split_69 : decode b_Mo_split 69 = .ok (.aload_n 0, 1) := by decide +kernel
theorem d_Mo_split_70 : decode b_Mo_split 70 = .ok (.iload 4, 2) := by decide +kernel
theorem d_Mo_split_72 : decode b_Mo_split 72 = .ok (.invokevirtual 134, 3) := by decide +kernel
theorem d_Mo_split_75 : decode b_Mo_split 75 = .ok (.iload_n 1, 1) := by decide +kernel
theorem d_Mo_split_76 : decode b_Mo_split 76 = .ok (.if_icmp .gt 7, 3) := by decide +kernel
theorem d_Mo_split_79 : decode b_Mo_split 79 = .ok (.iconst 1, 1) := by decide +kernel
theorem d_Mo_split_80 : decode b_Mo_split 80 = .ok (.goto 4, 3) := by decide +kernel
theorem d_Mo_split_83 : decode b_Mo_split 83 = .ok (.iconst 0, 1) := by decide +kernel
theorem d_Mo_split_84 : decode b_Mo_split 84 = .ok (.istore 5, 2) := by decide +kernel
theorem d_Mo_split_86 : decode b_Mo_split 86 = .ok (.aload_n 0, 1) := by decide +kernel
theorem d_Mo_split_87 : decode b_Mo_split 87 = .ok (.getfield 41, 3) := by decide +kernel
theorem d_Mo_split_90 : decode b_Mo_split 90 = .ok (.iload_n 3, 1) := by decide +kernel
theorem d_Mo_split_91 : decode b_Mo_split 91 = .ok (.iload 5, 2) := by decide +kernel
theorem d_Mo_split_93 : decode b_Mo_split 93 = .ok (.ifCond .eq 37, 3) := by decide +kernel
theorem d_Mo_split_96 : decode b_Mo_split 96 = .ok (.aload_n 0, 1) := by decide +kernel
theorem d_Mo_split_97 : decode b_Mo_split 97 = .ok (.getfield 41, 3) := by decide +kernel
theorem d_Mo_split_100 : decode b_Mo_split 100 = .ok (.iload_n 3, 1) := by decide +kernel
theorem d_Mo_split_101 : decode b_Mo_split 101 = .ok (.iload 4, 2) := by decide +kernel
theorem d_Mo_split_103 : decode b_Mo_split 103 = .ok (.isub, 1) := by decide +kernel
theorem d_Mo_split_104 : decode b_Mo_split 104 = .ok (.iaload, 1) := by decide +kernel
theorem d_Mo_split_105 : decode b_Mo_split 105 = .ok (.iconst 1, 1) := by decide +kernel
theorem d_Mo_split_106 : decode b_Mo_split 106 = .ok (.iadd, 1) := by decide +kernel
theorem d_Mo_split_107 : decode b_Mo_split 107 = .ok (.aload_n 0, 1) := by decide +kernel
theorem d_Mo_split_108 : decode b_Mo_split 108 = .ok (.getfield 41, 3) := by decide +kernel
theorem d_Mo_split_111 : decode b_Mo_split 111 = .ok (.iload_n 3, 1) := by decide +kernel
theorem d_Mo_split_112 : decode b_Mo_split 112 = .ok (.iaload, 1) := by decide +kernel
theorem d_Mo_split_113 : decode b_Mo_split 113 = .ok (.if_icmp .ge 17, 3) := by decide +kernel
theorem d_Mo_split_116 : decode b_Mo_split 116 = .ok (.aload_n 0, 1) := by decide +kernel
theorem d_Mo_split_117 : decode b_Mo_split 117 = .ok (.getfield 41, 3) := by decide +kernel
theorem d_Mo_split_120 : decode b_Mo_split 120 = .ok (.iload_n 3, 1) := by decide +kernel
theorem d_Mo_split_121 : decode b_Mo_split 121 = .ok (.iload 4, 2) := by decide +kernel
theorem d_Mo_split_123 : decode b_Mo_split 123 = .ok (.isub, 1) := by decide +kernel
theorem d_Mo_split_124 : decode b_Mo_split 124 = .ok (.iaload, 1) := by decide +kernel
theorem d_Mo_split_125 : decode b_Mo_split 125 = .ok (.iconst 1, 1) := by decide +kernel
theorem d_Mo_split_126 : decode b_Mo_split 126 = .ok (.iadd, 1) := by decide +kernel
theorem d_Mo_split_127 : decode b_Mo_split 127 = .ok (.goto 9, 3) := by decide +kernel
theorem d_Mo_split_130 : decode b_Mo_split 130 = .ok (.aload_n 0, 1) := by decide +kernel
theorem d_Mo_split_131 : decode b_Mo_split 131 = .ok (.getfield 41, 3) := by decide +kernel
theorem d_Mo_split_134 : decode b_Mo_split 134 = .ok (.iload_n 3, 1) := by decide +kernel
theorem d_Mo_split_135 : decode b_Mo_split 135 = .ok (.iaload, 1) := by decide +kernel
theorem d_Mo_split_136 : decode b_Mo_split 136 = .ok (.iastore, 1) := by decide +kernel
theorem d_Mo_split_137 : decode b_Mo_split 137 = .ok (.iinc 4 1, 3) := by decide +kernel
theorem d_Mo_split_140 : decode b_Mo_split 140 = .ok (.goto (-86), 3) := by decide +kernel
theorem d_Mo_split_143 : decode b_Mo_split 143 = .ok (.iinc 3 1, 3) := by decide +kernel
theorem d_Mo_split_146 : decode b_Mo_split 146 = .ok (.goto (-116), 3) := by decide +kernel
theorem d_Mo_split_149 : decode b_Mo_split 149 = .ok (.aload_n 0, 1) := by decide +kernel
theorem d_Mo_split_150 : decode b_Mo_split 150 = .ok (.getfield 41, 3) := by decide +kernel
theorem d_Mo_split_153 : decode b_Mo_split 153 = .ok (.iload_n 2, 1) := by decide +kernel
theorem d_Mo_split_154 : decode b_Mo_split 154 = .ok (.iconst 1, 1) := by decide +kernel
theorem d_Mo_split_155 : decode b_Mo_split 155 = .ok (.isub, 1) := by decide +kernel
theorem d_Mo_split_156 : decode b_Mo_split 156 = .ok (.iaload, 1) := by decide +kernel
theorem d_Mo_split_157 : decode b_Mo_split 157 = .ok (.bipush 6, 2) := by decide +kernel
theorem d_Mo_split_159 : decode b_Mo_split 159 = .ok (.if_icmp .le 7, 3) := by decide +kernel
theorem d_Mo_split_162 : decode b_Mo_split 162 = .ok (.iconst (-1), 1) := by decide +kernel
theorem d_Mo_split_163 : decode b_Mo_split 163 = .ok (.goto 11, 3) := by decide +kernel
theorem d_Mo_split_166 : decode b_Mo_split 166 = .ok (.aload_n 0, 1) := by decide +kernel
theorem d_Mo_split_167 : decode b_Mo_split 167 = .ok (.getfield 41, 3) := by decide +kernel
theorem d_Mo_split_170 : decode b_Mo_split 170 = .ok (.iload_n 2, 1) := by decide +kernel
theorem d_Mo_split_171 : decode b_Mo_split 171 = .ok (.iconst 1, 1) := by decide +kernel
theorem d_Mo_split_172 : decode b_Mo_split 172 = .ok (.isub, 1) := by decide +kernel
theorem d_Mo_split_173 : decode b_Mo_split 173 = .ok (.iaload, 1) := by decide +kernel
theorem d_Mo_split_174 : decode b_Mo_split 174 = .ok (.ireturn, 1) := by decide +kernel
theorem d_Mo_weight_0 : decode b_Mo_weight 0 = .ok (.iconst 0, 1) := by decide +kernel
theorem d_Mo_weight_1 : decode b_Mo_weight 1 = .ok (.istore_n 2, 1) := by decide +kernel
theorem d_Mo_weight_2 : decode b_Mo_weight 2 = .ok (.iconst 0, 1) := by decide +kernel
theorem d_Mo_weight_3 : decode b_Mo_weight 3 = .ok (.istore_n 3, 1) := by decide +kernel
theorem d_Mo_weight_4 : decode b_Mo_weight 4 = .ok (.iload_n 3, 1) := by decide +kernel
theorem d_Mo_weight_5 : decode b_Mo_weight 5 = .ok (.aload_n 0, 1) := by decide +kernel
theorem d_Mo_weight_6 : decode b_Mo_weight 6 = .ok (.getfield 63, 3) := by decide +kernel
theorem d_Mo_weight_9 : decode b_Mo_weight 9 = .ok (.if_icmp .ge 30, 3) := by decide +kernel
theorem d_Mo_weight_12 : decode b_Mo_weight 12 = .ok (.iload_n 1, 1) := by decide +kernel
theorem d_Mo_weight_13 : decode b_Mo_weight 13 = .ok (.iload_n 3, 1) := by decide +kernel
theorem d_Mo_weight_14 : decode b_Mo_weight 14 = .ok (.invokestatic 90, 3) := by decide +kernel
theorem d_Mo_weight_17 : decode b_Mo_weight 17 = .ok (.ifCond .eq 14, 3) := by decide +kernel
theorem d_Mo_weight_20 : decode b_Mo_weight 20 = .ok (.iload_n 2, 1) := by decide +kernel
theorem d_Mo_weight_21 : decode b_Mo_weight 21 = .ok (.aload_n 0, 1) := by decide +kernel
theorem d_Mo_weight_22 : decode b_Mo_weight 22 = .ok (.getfield 13, 3) := by decide +kernel
theorem d_Mo_weight_25 : decode b_Mo_weight 25 = .ok (.iload_n 3, 1) := by decide +kernel
theorem d_Mo_weight_26 : decode b_Mo_weight 26 = .ok (.iaload, 1) := by decide +kernel
theorem d_Mo_weight_27 : decode b_Mo_weight 27 = .ok (.iadd, 1) := by decide +kernel
theorem d_Mo_weight_28 : decode b_Mo_weight 28 = .ok (.goto 4, 3) := by decide +kernel
theorem d_Mo_weight_31 : decode b_Mo_weight 31 = .ok (.iload_n 2, 1) := by decide +kernel
theorem d_Mo_weight_32 : decode b_Mo_weight 32 = .ok (.istore_n 2, 1) := by decide +kernel
theorem d_Mo_weight_33 : decode b_Mo_weight 33 = .ok (.iinc 3 1, 3) := by decide +kernel
theorem d_Mo_weight_36 : decode b_Mo_weight 36 = .ok (.goto (-32), 3) := by decide +kernel
theorem d_Mo_weight_39 : decode b_Mo_weight 39 = .ok (.iload_n 2, 1) := by decide +kernel
theorem d_Mo_weight_40 : decode b_Mo_weight 40 = .ok (.ireturn, 1) := by decide +kernel
theorem d_Mo_lag_0 : decode b_Mo_lag 0 = .ok (.aload_n 0, 1) := by decide +kernel
theorem d_Mo_lag_1 : decode b_Mo_lag 1 = .ok (.iload_n 1, 1) := by decide +kernel
theorem d_Mo_lag_2 : decode b_Mo_lag 2 = .ok (.iconst 1, 1) := by decide +kernel
theorem d_Mo_lag_3 : decode b_Mo_lag 3 = .ok (.bipush 100, 2) := by decide +kernel
theorem d_Mo_lag_5 : decode b_Mo_lag 5 = .ok (.invokestatic 66, 3) := by decide +kernel
theorem d_Mo_lag_8 : decode b_Mo_lag 8 = .ok (.iconst 1, 1) := by decide +kernel
theorem d_Mo_lag_9 : decode b_Mo_lag 9 = .ok (.iconst 1, 1) := by decide +kernel
theorem d_Mo_lag_10 : decode b_Mo_lag 10 = .ok (.invokevirtual 71, 3) := by decide +kernel
theorem d_Mo_lag_13 : decode b_Mo_lag 13 = .ok (.ifCond .ne 5, 3) := by decide +kernel
theorem d_Mo_lag_16 : decode b_Mo_lag 16 = .ok (.iconst 0, 1) := by decide +kernel
theorem d_Mo_lag_17 : decode b_Mo_lag 17 = .ok (.ireturn, 1) := by decide +kernel
theorem d_Mo_lag_18 : decode b_Mo_lag 18 = .ok (.aload_n 0, 1) := by decide +kernel
theorem d_Mo_lag_19 : decode b_Mo_lag 19 = .ok (.getfield 53, 3) := by decide +kernel
theorem d_Mo_lag_22 : decode b_Mo_lag 22 = .ok (.istore_n 2, 1) := by decide +kernel
theorem d_Mo_lag_23 : decode b_Mo_lag 23 = .ok (.aload_n 0, 1) := by decide +kernel
theorem d_Mo_lag_24 : decode b_Mo_lag 24 = .ok (.iload_n 1, 1) := by decide +kernel
theorem d_Mo_lag_25 : decode b_Mo_lag 25 = .ok (.putfield 53, 3) := by decide +kernel
theorem d_Mo_lag_28 : decode b_Mo_lag 28 = .ok (.iload_n 2, 1) := by decide +kernel
theorem d_Mo_lag_29 : decode b_Mo_lag 29 = .ok (.ireturn, 1) := by decide +kernel
theorem d_Mo_climate_0 : decode b_Mo_climate 0 = .ok (.aload_n 0, 1) := by decide +kernel
theorem d_Mo_climate_1 : decode b_Mo_climate 1 = .ok (.aload_n 0, 1) := by decide +kernel
theorem d_Mo_climate_2 : decode b_Mo_climate 2 = .ok (.getfield 138, 3) := by decide +kernel
theorem d_Mo_climate_5 : decode b_Mo_climate 5 = .ok (.sipush 200, 3) := by decide +kernel
theorem d_Mo_climate_8 : decode b_Mo_climate 8 = .ok (.if_icmp .ge 7, 3) := by decide +kernel
theorem d_Mo_climate_11 : decode b_Mo_climate 11 = .ok (.iconst 1, 1) := by decide +kernel
theorem d_Mo_climate_12 : decode b_Mo_climate 12 = .ok (.goto 4, 3) := by decide +kernel
theorem d_Mo_climate_15 : decode b_Mo_climate 15 = .ok (.iconst 0, 1) := by decide +kernel
theorem d_Mo_climate_16 : decode b_Mo_climate 16 = .ok (.iload_n 1, 1) := by decide +kernel
theorem d_Mo_climate_17 : decode b_Mo_climate 17 = .ok (.bipush (-60), 2) := by decide +kernel
theorem d_Mo_climate_19 : decode b_Mo_climate 19 = .ok (.bipush 60, 2) := by decide +kernel
theorem d_Mo_climate_21 : decode b_Mo_climate 21 = .ok (.invokestatic 66, 3) := by decide +kernel
theorem d_Mo_climate_24 : decode b_Mo_climate 24 = .ok (.iconst 1, 1) := by decide +kernel
theorem d_Mo_climate_25 : decode b_Mo_climate 25 = .ok (.invokevirtual 71, 3) := by decide +kernel
theorem d_Mo_climate_28 : decode b_Mo_climate 28 = .ok (.ifCond .ne 5, 3) := by decide +kernel
theorem d_Mo_climate_31 : decode b_Mo_climate 31 = .ok (.iconst 0, 1) := by decide +kernel
theorem d_Mo_climate_32 : decode b_Mo_climate 32 = .ok (.ireturn, 1) := by decide +kernel
theorem d_Mo_climate_33 : decode b_Mo_climate 33 = .ok (.aload_n 0, 1) := by decide +kernel
theorem d_Mo_climate_34 : decode b_Mo_climate 34 = .ok (.getfield 138, 3) := by decide +kernel
theorem d_Mo_climate_37 : decode b_Mo_climate 37 = .ok (.ifCond .ne 9, 3) := by decide +kernel
theorem d_Mo_climate_40 : decode b_Mo_climate 40 = .ok (.sipush 20000, 3) := by decide +kernel
theorem d_Mo_climate_43 : decode b_Mo_climate 43 = .ok (.goto 14, 3) := by decide +kernel
theorem d_Mo_climate_46 : decode b_Mo_climate 46 = .ok (.aload_n 0, 1) := by decide +kernel
theorem d_Mo_climate_47 : decode b_Mo_climate 47 = .ok (.getfield 50, 3) := by decide +kernel
theorem d_Mo_climate_50 : decode b_Mo_climate 50 = .ok (.aload_n 0, 1) := by decide +kernel
theorem d_Mo_climate_51 : decode b_Mo_climate 51 = .ok (.getfield 138, 3) := by decide +kernel
theorem d_Mo_climate_54 : decode b_Mo_climate 54 = .ok (.iconst 1, 1) := by decide +kernel
theorem d_Mo_climate_55 : decode b_Mo_climate 55 = .ok (.isub, 1) := by decide +kernel
theorem d_Mo_climate_56 : decode b_Mo_climate 56 = .ok (.iaload, 1) := by decide +kernel
theorem d_Mo_climate_57 : decode b_Mo_climate 57 = .ok (.istore_n 2, 1) := by decide +kernel
theorem d_Mo_climate_58 : decode b_Mo_climate 58 = .ok (.aload_n 0, 1) := by decide +kernel
theorem d_Mo_climate_59 : decode b_Mo_climate 59 = .ok (.getfield 50, 3) := by decide +kernel
theorem d_Mo_climate_62 : decode b_Mo_climate 62 = .ok (.aload_n 0, 1) := by decide +kernel
theorem d_Mo_climate_63 : decode b_Mo_climate 63 = .ok (.getfield 138, 3) := by decide +kernel
theorem d_Mo_climate_66 : decode b_Mo_climate 66 = .ok (.iload_n 2, 1) := by decide +kernel
theorem d_Mo_climate_67 : decode b_Mo_climate 67 = .ok (.iload_n 2, 1) := by decide +kernel
theorem d_Mo_climate_68 : decode b_Mo_climate 68 = .ok (.sipush 1000, 3) := by decide +kernel
theorem d_Mo_climate_71 : decode b_Mo_climate 71 = .ok (.iload_n 1, 1) := by decide +kernel
theorem d_Mo_climate_72 : decode b_Mo_climate 72 = .ok (.imul, 1) := by decide +kernel
theorem d_Mo_climate_73 : decode b_Mo_climate 73 = .ok (.isub, 1) := by decide +kernel
theorem d_Mo_climate_74 : decode b_Mo_climate 74 = .ok (.aload_n 0, 1) := by decide +kernel
theorem d_Mo_climate_75 : decode b_Mo_climate 75 = .ok (.getfield 53, 3) := by decide +kernel
theorem d_Mo_climate_78 : decode b_Mo_climate 78 = .ok (.invokestatic 83, 3) := by decide +kernel
theorem d_Mo_climate_81 : decode b_Mo_climate 81 = .ok (.isub, 1) := by decide +kernel
theorem d_Mo_climate_82 : decode b_Mo_climate 82 = .ok (.iastore, 1) := by decide +kernel
theorem d_Mo_climate_83 : decode b_Mo_climate 83 = .ok (.aload_n 0, 1) := by decide +kernel
theorem d_Mo_climate_84 : decode b_Mo_climate 84 = .ok (.dup, 1) := by decide +kernel
theorem d_Mo_climate_85 : decode b_Mo_climate 85 = .ok (.getfield 138, 3) := by decide +kernel
theorem d_Mo_climate_88 : decode b_Mo_climate 88 = .ok (.iconst 1, 1) := by decide +kernel
theorem d_Mo_climate_89 : decode b_Mo_climate 89 = .ok (.iadd, 1) := by decide +kernel
theorem d_Mo_climate_90 : decode b_Mo_climate 90 = .ok (.putfield 138, 3) := by decide +kernel
theorem d_Mo_climate_93 : decode b_Mo_climate 93 = .ok (.aload_n 0, 1) := by decide +kernel
theorem d_Mo_climate_94 : decode b_Mo_climate 94 = .ok (.getfield 50, 3) := by decide +kernel
theorem d_Mo_climate_97 : decode b_Mo_climate 97 = .ok (.aload_n 0, 1) := by decide +kernel
theorem d_Mo_climate_98 : decode b_Mo_climate 98 = .ok (.getfield 138, 3) := by decide +kernel
theorem d_Mo_climate_101 : decode b_Mo_climate 101 = .ok (.iconst 1, 1) := by decide +kernel
theorem d_Mo_climate_102 : decode b_Mo_climate 102 = .ok (.isub, 1) := by decide +kernel
theorem d_Mo_climate_103 : decode b_Mo_climate 103 = .ok (.iaload, 1) := by decide +kernel
theorem d_Mo_climate_104 : decode b_Mo_climate 104 = .ok (.ireturn, 1) := by decide +kernel
theorem d_Mo_inside_0 : decode b_Mo_inside 0 = .ok (.aload_n 0, 1) := by decide +kernel
theorem d_Mo_inside_1 : decode b_Mo_inside 1 = .ok (.iload_n 1, 1) := by decide +kernel
theorem d_Mo_inside_2 : decode b_Mo_inside 2 = .ok (.ifCond .lt 15, 3) := by decide +kernel
theorem d_Mo_inside_5 : decode b_Mo_inside 5 = .ok (.iload_n 1, 1) := by decide +kernel
theorem d_Mo_inside_6 : decode b_Mo_inside 6 = .ok (.aload_n 0, 1) := by decide +kernel
theorem d_Mo_inside_7 : decode b_Mo_inside 7 = .ok (.getfield 138, 3) := by decide +kernel
theorem d_Mo_inside_10 : decode b_Mo_inside 10 = .ok (.if_icmp .ge 7, 3) := by decide +kernel
theorem d_Mo_inside_13 : decode b_Mo_inside 13 = .ok (.iconst 1, 1) := by decide +kernel
theorem d_Mo_inside_14 : decode b_Mo_inside 14 = .ok (.goto 4, 3) := by decide +kernel
theorem d_Mo_inside_17 : decode b_Mo_inside 17 = .ok (.iconst 0, 1) := by decide +kernel
theorem d_Mo_inside_18 : decode b_Mo_inside 18 = .ok (.iconst 1, 1) := by decide +kernel
theorem d_Mo_inside_19 : decode b_Mo_inside 19 = .ok (.iconst 1, 1) := by decide +kernel
theorem d_Mo_inside_20 : decode b_Mo_inside 20 = .ok (.invokevirtual 71, 3) := by decide +kernel
theorem d_Mo_inside_23 : decode b_Mo_inside 23 = .ok (.ifCond .eq 12, 3) := by decide +kernel
theorem d_Mo_inside_26 : decode b_Mo_inside 26 = .ok (.aload_n 0, 1) := by decide +kernel
theorem d_Mo_inside_27 : decode b_Mo_inside 27 = .ok (.getfield 50, 3) := by decide +kernel
theorem d_Mo_inside_30 : decode b_Mo_inside 30 = .ok (.iload_n 1, 1) := by decide +kernel
theorem d_Mo_inside_31 : decode b_Mo_inside 31 = .ok (.iaload, 1) := by decide +kernel
theorem d_Mo_inside_32 : decode b_Mo_inside 32 = .ok (.goto 4, 3) := by decide +kernel
theorem d_Mo_inside_35 : decode b_Mo_inside 35 = .ok (.iconst 0, 1) := by decide +kernel
theorem d_Mo_inside_36 : decode b_Mo_inside 36 = .ok (.ireturn, 1) := by decide +kernel
theorem d_Mo_steady_0 : decode b_Mo_steady 0 = .ok (.aload_n 0, 1) := by decide +kernel
theorem d_Mo_steady_1 : decode b_Mo_steady 1 = .ok (.iload_n 1, 1) := by decide +kernel
theorem d_Mo_steady_2 : decode b_Mo_steady 2 = .ok (.iload_n 2, 1) := by decide +kernel
theorem d_Mo_steady_3 : decode b_Mo_steady 3 = .ok (.if_icmp .gt 7, 3) := by decide +kernel
theorem d_Mo_steady_6 : decode b_Mo_steady 6 = .ok (.iconst 1, 1) := by decide +kernel
theorem d_Mo_steady_7 : decode b_Mo_steady 7 = .ok (.goto 4, 3) := by decide +kernel
theorem d_Mo_steady_10 : decode b_Mo_steady 10 = .ok (.iconst 0, 1) := by decide +kernel
theorem d_Mo_steady_11 : decode b_Mo_steady 11 = .ok (.iconst 1, 1) := by decide +kernel
theorem d_Mo_steady_12 : decode b_Mo_steady 12 = .ok (.iconst 1, 1) := by decide +kernel
theorem d_Mo_steady_13 : decode b_Mo_steady 13 = .ok (.invokevirtual 71, 3) := by decide +kernel
theorem d_Mo_steady_16 : decode b_Mo_steady 16 = .ok (.ifCond .ne 5, 3) := by decide +kernel
theorem d_Mo_steady_19 : decode b_Mo_steady 19 = .ok (.iconst 0, 1) := by decide +kernel
theorem d_Mo_steady_20 : decode b_Mo_steady 20 = .ok (.ireturn, 1) := by decide +kernel
theorem d_Mo_steady_21 : decode b_Mo_steady 21 = .ok (.iconst 0, 1) := by decide +kernel
theorem d_Mo_steady_22 : decode b_Mo_steady 22 = .ok (.istore_n 3, 1) := by decide +kernel
theorem d_Mo_steady_23 : decode b_Mo_steady 23 = .ok (.iconst 0, 1) := by decide +kernel
theorem d_Mo_steady_24 : decode b_Mo_steady 24 = .ok (.istore 4, 2) := by decide +kernel
theorem d_Mo_steady_26 : decode b_Mo_steady 26 = .ok (.iconst 0, 1) := by decide +kernel
theorem d_Mo_steady_27 : decode b_Mo_steady 27 = .ok (.istore 5, 2) := by decide +kernel
theorem d_Mo_steady_29 : decode b_Mo_steady 29 = .ok (.iload 5, 2) := by decide +kernel
theorem d_Mo_steady_31 : decode b_Mo_steady 31 = .ok (.aload_n 0, 1) := by decide +kernel
theorem d_Mo_steady_32 : decode b_Mo_steady 32 = .ok (.getfield 138, 3) := by decide +kernel
theorem d_Mo_steady_35 : decode b_Mo_steady 35 = .ok (.if_icmp .ge 47, 3) := by decide +kernel
theorem d_Mo_steady_38 : decode b_Mo_steady 38 = .ok (.aload_n 0, 1) := by decide +kernel
theorem d_Mo_steady_39 : decode b_Mo_steady 39 = .ok (.getfield 50, 3) := by decide +kernel
theorem d_Mo_steady_42 : decode b_Mo_steady 42 = .ok (.iload 5, 2) := by decide +kernel
theorem d_Mo_steady_44 : decode b_Mo_steady 44 = .ok (.iaload, 1) := by decide +kernel
theorem d_Mo_steady_45 : decode b_Mo_steady 45 = .ok (.iload_n 1, 1) := by decide +kernel
theorem d_Mo_steady_46 : decode b_Mo_steady 46 = .ok (.iload_n 2, 1) := by decide +kernel
theorem d_Mo_steady_47 : decode b_Mo_steady 47 = .ok (.invokestatic 66, 3) := by decide +kernel
theorem d_Mo_steady_50 : decode b_Mo_steady 50 = .ok (.ifCond .eq 10, 3) := by decide +kernel
theorem d_Mo_steady_53 : decode b_Mo_steady 53 = .ok (.iload 4, 2) := by decide +kernel
theorem d_Mo_steady_55 : decode b_Mo_steady 55 = .ok (.iconst 1, 1) := by decide +kernel
theorem d_Mo_steady_56 : decode b_Mo_steady 56 = .ok (.iadd, 1) := by decide +kernel
theorem d_Mo_steady_57 : decode b_Mo_steady 57 = .ok (.goto 4, 3) := by decide +kernel
theorem d_Mo_steady_60 : decode b_Mo_steady 60 = .ok (.iconst 0, 1) := by decide +kernel
theorem d_Mo_steady_61 : decode b_Mo_steady 61 = .ok (.istore 4, 2) := by decide +kernel
theorem d_Mo_steady_63 : decode b_Mo_steady 63 = .ok (.iload 4, 2) := by decide +kernel
theorem d_Mo_steady_65 : decode b_Mo_steady 65 = .ok (.iload_n 3, 1) := by decide +kernel
theorem d_Mo_steady_66 : decode b_Mo_steady 66 = .ok (.if_icmp .le 8, 3) := by decide +kernel
theorem d_Mo_steady_69 : decode b_Mo_steady 69 = .ok (.iload 4, 2) := by decide +kernel
theorem d_Mo_steady_71 : decode b_Mo_steady 71 = .ok (.goto 4, 3) := by decide +kernel
theorem d_Mo_steady_74 : decode b_Mo_steady 74 = .ok (.iload_n 3, 1) := by decide +kernel
theorem d_Mo_steady_75 : decode b_Mo_steady 75 = .ok (.istore_n 3, 1) := by decide +kernel
theorem d_Mo_steady_76 : decode b_Mo_steady 76 = .ok (.iinc 5 1, 3) := by decide +kernel
theorem d_Mo_steady_79 : decode b_Mo_steady 79 = .ok (.goto (-50), 3) := by decide +kernel
theorem d_Mo_steady_82 : decode b_Mo_steady 82 = .ok (.iload_n 3, 1) := by decide +kernel
theorem d_Mo_steady_83 : decode b_Mo_steady 83 = .ok (.ireturn, 1) := by decide +kernel
theorem d_Mo_limit_0 : decode b_Mo_limit 0 = .ok (.aload_n 0, 1) := by decide +kernel
theorem d_Mo_limit_1 : decode b_Mo_limit 1 = .ok (.iload_n 1, 1) := by decide +kernel
theorem d_Mo_limit_2 : decode b_Mo_limit 2 = .ok (.iconst 1, 1) := by decide +kernel
theorem d_Mo_limit_3 : decode b_Mo_limit 3 = .ok (.sipush 10000, 3) := by decide +kernel
theorem d_Mo_limit_6 : decode b_Mo_limit 6 = .ok (.invokestatic 66, 3) := by decide +kernel
theorem d_Mo_limit_9 : decode b_Mo_limit 9 = .ok (.ifCond .eq 18, 3) := by decide +kernel
theorem d_Mo_limit_12 : decode b_Mo_limit 12 = .ok (.iload_n 2, 1) := by decide +kernel
theorem d_Mo_limit_13 : decode b_Mo_limit 13 = .ok (.iconst 1, 1) := by decide +kernel
theorem d_Mo_limit_14 : decode b_Mo_limit 14 = .ok (.sipush 10000, 3) := by decide +kernel
theorem d_Mo_limit_17 : decode b_Mo_limit 17 = .ok (.invokestatic 66, 3) := by decide +kernel
theorem d_Mo_limit_20 : decode b_Mo_limit 20 = .ok (.ifCond .eq 7, 3) := by decide +kernel
theorem d_Mo_limit_23 : decode b_Mo_limit 23 = .ok (.iconst 1, 1) := by decide +kernel
theorem d_Mo_limit_24 : decode b_Mo_limit 24 = .ok (.goto 4, 3) := by decide +kernel
theorem d_Mo_limit_27 : decode b_Mo_limit 27 = .ok (.iconst 0, 1) := by decide +kernel
theorem d_Mo_limit_28 : decode b_Mo_limit 28 = .ok (.iconst 1, 1) := by decide +kernel
theorem d_Mo_limit_29 : decode b_Mo_limit 29 = .ok (.iconst 1, 1) := by decide +kernel
theorem d_Mo_limit_30 : decode b_Mo_limit 30 = .ok (.invokevirtual 71, 3) := by decide +kernel
theorem d_Mo_limit_33 : decode b_Mo_limit 33 = .ok (.ifCond .eq 18, 3) := by decide +kernel
theorem d_Mo_limit_36 : decode b_Mo_limit 36 = .ok (.aload_n 0, 1) := by decide +kernel
theorem d_Mo_limit_37 : decode b_Mo_limit 37 = .ok (.iload_n 1, 1) := by decide +kernel
theorem d_Mo_limit_38 : decode b_Mo_limit 38 = .ok (.putfield 141, 3) := by decide +kernel
theorem d_Mo_limit_41 : decode b_Mo_limit 41 = .ok (.aload_n 0, 1) := by decide +kernel
theorem d_Mo_limit_42 : decode b_Mo_limit 42 = .ok (.iload_n 2, 1) := by decide +kernel
theorem d_Mo_limit_43 : decode b_Mo_limit 43 = .ok (.putfield 144, 3) := by decide +kernel
theorem d_Mo_limit_46 : decode b_Mo_limit 46 = .ok (.aload_n 0, 1) := by decide +kernel
theorem d_Mo_limit_47 : decode b_Mo_limit 47 = .ok (.iconst 1, 1) := by decide +kernel
theorem d_Mo_limit_48 : decode b_Mo_limit 48 = .ok (.putfield 147, 3) := by decide +kernel
theorem d_Mo_limit_51 : decode b_Mo_limit 51 = .ok (.return_, 1) := by decide +kernel
theorem d_Mo_shock_0 : decode b_Mo_shock 0 = .ok (.aload_n 0, 1) := by decide +kernel
theorem d_Mo_shock_1 : decode b_Mo_shock 1 = .ok (.iload_n 1, 1) := by decide +kernel
theorem d_Mo_shock_2 : decode b_Mo_shock 2 = .ok (.iconst 0, 1) := by decide +kernel
theorem d_Mo_shock_3 : decode b_Mo_shock 3 = .ok (.sipush 10000, 3) := by decide +kernel
theorem d_Mo_shock_6 : decode b_Mo_shock 6 = .ok (.invokestatic 66, 3) := by decide +kernel
theorem d_Mo_shock_9 : decode b_Mo_shock 9 = .ok (.ifCond .eq 18, 3) := by decide +kernel
theorem d_Mo_shock_12 : decode b_Mo_shock 12 = .ok (.iload_n 2, 1) := by decide +kernel
theorem d_Mo_shock_13 : decode b_Mo_shock 13 = .ok (.iconst 0, 1) := by decide +kernel
theorem d_Mo_shock_14 : decode b_Mo_shock 14 = .ok (.sipush 10000, 3) := by decide +kernel
theorem d_Mo_shock_17 : decode b_Mo_shock 17 = .ok (.invokestatic 66, 3) := by decide +kernel
theorem d_Mo_shock_20 : decode b_Mo_shock 20 = .ok (.ifCond .eq 7, 3) := by decide +kernel
theorem d_Mo_shock_23 : decode b_Mo_shock 23 = .ok (.iconst 1, 1) := by decide +kernel
theorem d_Mo_shock_24 : decode b_Mo_shock 24 = .ok (.goto 4, 3) := by decide +kernel
theorem d_Mo_shock_27 : decode b_Mo_shock 27 = .ok (.iconst 0, 1) := by decide +kernel
theorem d_Mo_shock_28 : decode b_Mo_shock 28 = .ok (.iconst 1, 1) := by decide +kernel
theorem d_Mo_shock_29 : decode b_Mo_shock 29 = .ok (.iconst 1, 1) := by decide +kernel
theorem d_Mo_shock_30 : decode b_Mo_shock 30 = .ok (.invokevirtual 71, 3) := by decide +kernel
theorem d_Mo_shock_33 : decode b_Mo_shock 33 = .ok (.ifCond .ne 5, 3) := by decide +kernel
theorem d_Mo_shock_36 : decode b_Mo_shock 36 = .ok (.iconst 0, 1) := by decide +kernel
theorem d_Mo_shock_37 : decode b_Mo_shock 37 = .ok (.ireturn, 1) := by decide +kernel
theorem d_Mo_shock_38 : decode b_Mo_shock 38 = .ok (.aload_n 0, 1) := by decide +kernel
theorem d_Mo_shock_39 : decode b_Mo_shock 39 = .ok (.getfield 147, 3) := by decide +kernel
theorem d_Mo_shock_42 : decode b_Mo_shock 42 = .ok (.ifCond .eq 33, 3) := by decide +kernel
theorem d_Mo_shock_45 : decode b_Mo_shock 45 = .ok (.iload_n 1, 1) := by decide +kernel
theorem d_Mo_shock_46 : decode b_Mo_shock 46 = .ok (.aload_n 0, 1) := by decide +kernel
theorem d_Mo_shock_47 : decode b_Mo_shock 47 = .ok (.getfield 141, 3) := by decide +kernel
theorem d_Mo_shock_50 : decode b_Mo_shock 50 = .ok (.if_icmp .gt 21, 3) := by decide +kernel
theorem d_Mo_shock_53 : decode b_Mo_shock 53 = .ok (.iload_n 1, 1) := by decide +kernel
theorem d_Mo_shock_54 : decode b_Mo_shock 54 = .ok (.aload_n 0, 1) := by decide +kernel
theorem d_Mo_shock_55 : decode b_Mo_shock 55 = .ok (.getfield 141, 3) := by decide +kernel
theorem d_Mo_shock_58 : decode b_Mo_shock 58 = .ok (.iconst 2, 1) := by decide +kernel
theorem d_Mo_shock_59 : decode b_Mo_shock 59 = .ok (.idiv, 1) := by decide +kernel
theorem d_Mo_shock_60 : decode b_Mo_shock 60 = .ok (.if_icmp .le 15, 3) := by decide +kernel
theorem d_Mo_shock_63 : decode b_Mo_shock 63 = .ok (.iload_n 2, 1) := by decide +kernel
theorem d_Mo_shock_64 : decode b_Mo_shock 64 = .ok (.aload_n 0, 1) := by decide +kernel
theorem d_Mo_shock_65 : decode b_Mo_shock 65 = .ok (.getfield 144, 3) := by decide +kernel
theorem d_Mo_shock_68 : decode b_Mo_shock 68 = .ok (.if_icmp .le 7, 3) := by decide +kernel
theorem d_Mo_shock_71 : decode b_Mo_shock 71 = .ok (.iconst 1, 1) := by decide +kernel
theorem d_Mo_shock_72 : decode b_Mo_shock 72 = .ok (.goto 4, 3) := by decide +kernel
theorem d_Mo_shock_75 : decode b_Mo_shock 75 = .ok (.iconst 0, 1) := by decide +kernel
theorem d_Mo_shock_76 : decode b_Mo_shock 76 = .ok (.istore_n 3, 1) := by decide +kernel
theorem d_Mo_shock_77 : decode b_Mo_shock 77 = .ok (.aload_n 0, 1) := by decide +kernel
theorem d_Mo_shock_78 : decode b_Mo_shock 78 = .ok (.dup, 1) := by decide +kernel
theorem d_Mo_shock_79 : decode b_Mo_shock 79 = .ok (.getfield 150, 3) := by decide +kernel
theorem d_Mo_shock_82 : decode b_Mo_shock 82 = .ok (.iconst 1, 1) := by decide +kernel
theorem d_Mo_shock_83 : decode b_Mo_shock 83 = .ok (.iadd, 1) := by decide +kernel
theorem d_Mo_shock_84 : decode b_Mo_shock 84 = .ok (.putfield 150, 3) := by decide +kernel
theorem d_Mo_shock_87 : decode b_Mo_shock 87 = .ok (.aload_n 0, 1) := by decide +kernel
theorem d_Mo_shock_88 : decode b_Mo_shock 88 = .ok (.iload_n 3, 1) := by decide +kernel
theorem d_Mo_shock_89 : decode b_Mo_shock 89 = .ok (.ifCond .eq 12, 3) := by decide +kernel
theorem d_Mo_shock_92 : decode b_Mo_shock 92 = .ok (.aload_n 0, 1) := by decide +kernel
theorem d_Mo_shock_93 : decode b_Mo_shock 93 = .ok (.getfield 153, 3) := by decide +kernel
theorem d_Mo_shock_96 : decode b_Mo_shock 96 = .ok (.iconst 1, 1) := by decide +kernel
theorem d_Mo_shock_97 : decode b_Mo_shock 97 = .ok (.iadd, 1) := by decide +kernel
theorem d_Mo_shock_98 : decode b_Mo_shock 98 = .ok (.goto 7, 3) := by decide +kernel
theorem d_Mo_shock_101 : decode b_Mo_shock 101 = .ok (.aload_n 0, 1) := by decide +kernel
theorem d_Mo_shock_102 : decode b_Mo_shock 102 = .ok (.getfield 153, 3) := by decide +kernel
theorem d_Mo_shock_105 : decode b_Mo_shock 105 = .ok (.putfield 153, 3) := by decide +kernel
theorem d_Mo_shock_108 : decode b_Mo_shock 108 = .ok (.iload_n 3, 1) := by decide +kernel
theorem d_Mo_shock_109 : decode b_Mo_shock 109 = .ok (.ireturn, 1) := by decide +kernel
theorem d_Mo_route_0 : decode b_Mo_route 0 = .ok (.aload_n 0, 1) := by decide +kernel
theorem d_Mo_route_1 : decode b_Mo_route 1 = .ok (.iload_n 1, 1) := by decide +kernel
theorem d_Mo_route_2 : decode b_Mo_route 2 = .ok (.iconst 0, 1) := by decide +kernel
theorem d_Mo_route_3 : decode b_Mo_route 3 = .ok (.ldc 156, 2) := by decide +kernel
theorem d_Mo_route_5 : decode b_Mo_route 5 = .ok (.invokestatic 66, 3) := by decide +kernel
theorem d_Mo_route_8 : decode b_Mo_route 8 = .ok (.ifCond .eq 17, 3) := by decide +kernel
theorem d_Mo_route_11 : decode b_Mo_route 11 = .ok (.iload_n 2, 1) := by decide +kernel
theorem d_Mo_route_12 : decode b_Mo_route 12 = .ok (.iconst 1, 1) := by decide +kernel
theorem d_Mo_route_13 : decode b_Mo_route 13 = .ok (.bipush 50, 2) := by decide +kernel
theorem d_Mo_route_15 : decode b_Mo_route 15 = .ok (.invokestatic 66, 3) := by decide +kernel
theorem d_Mo_route_18 : decode b_Mo_route 18 = .ok (.ifCond .eq 7, 3) := by decide +kernel
theorem d_Mo_route_21 : decode b_Mo_route 21 = .ok (.iconst 1, 1) := by decide +kernel
theorem d_Mo_route_22 : decode b_Mo_route 22 = .ok (.goto 4, 3) := by decide +kernel
theorem d_Mo_route_25 : decode b_Mo_route 25 = .ok (.iconst 0, 1) := by decide +kernel
theorem d_Mo_route_26 : decode b_Mo_route 26 = .ok (.iconst 1, 1) := by decide +kernel
theorem d_Mo_route_27 : decode b_Mo_route 27 = .ok (.iconst 1, 1) := by decide +kernel
theorem d_Mo_route_28 : decode b_Mo_route 28 = .ok (.invokevirtual 71, 3) := by decide +kernel
theorem d_Mo_route_31 : decode b_Mo_route 31 = .ok (.ifCond .ne 5, 3) := by decide +kernel
theorem d_Mo_route_34 : decode b_Mo_route 34 = .ok (.iconst 0, 1) := by decide +kernel
theorem d_Mo_route_35 : decode b_Mo_route 35 = .ok (.ireturn, 1) := by decide +kernel
theorem d_Mo_route_36 : decode b_Mo_route 36 = .ok (.iload_n 1, 1) := by decide +kernel
theorem d_Mo_route_37 : decode b_Mo_route 37 = .ok (.istore_n 3, 1) := by decide +kernel
theorem d_Mo_route_38 : decode b_Mo_route 38 = .ok (.iconst 0, 1) := by decide +kernel
theorem d_Mo_route_39 : decode b_Mo_route 39 = .ok (.istore 4, 2) := by decide +kernel
theorem d_Mo_route_41 : decode b_Mo_route 41 = .ok (.iconst 0, 1) := by decide +kernel
theorem d_Mo_route_42 : decode b_Mo_route 42 = .ok (.istore 5, 2) := by decide +kernel
theorem d_Mo_route_44 : decode b_Mo_route 44 = .ok (.iload 5, 2) := by decide +kernel
theorem d_Mo_route_46 : decode b_Mo_route 46 = .ok (.iload_n 2, 1) := by decide +kernel
theorem d_Mo_route_47 : decode b_Mo_route 47 = .ok (.if_icmp .ge 46, 3) := by decide +kernel
theorem d_Mo_route_50 : decode b_Mo_route 50 = .ok (.bipush 75, 2) := by decide +kernel
theorem d_Mo_route_52 : decode b_Mo_route 52 = .ok (.iload_n 3, 1) := by decide +kernel
theorem d_Mo_route_53 : decode b_Mo_route 53 = .ok (.imul, 1) := by decide +kernel
theorem d_Mo_route_54 : decode b_Mo_route 54 = .ok (.bipush 74, 2) := by decide +kernel
theorem d_Mo_route_56 : decode b_Mo_route 56 = .ok (.iadd, 1) := by decide +kernel
theorem d_Mo_route_57 : decode b_Mo_route 57 = .ok (.ldc 157, 2) := by decide +kernel
theorem d_Mo_route_59 : decode b_Mo_route 59 = .ok (.irem, 1) := by decide +kernel
theorem d_Mo_route_60 : decode b_Mo_route 60 = .ok (.istore_n 3, 1) := by decide +kernel
theorem d_Mo_route_61 : decode b_Mo_route 61 = .ok (.aload_n 0, 1) := by decide +kernel
theorem d_Mo_route_62 : decode b_Mo_route 62 = .ok (.getfield 57, 3) := by decide +kernel
theorem d_Mo_route_65 : decode b_Mo_route 65 = .ok (.iload 5, 2) := by decide +kernel
theorem d_Mo_route_67 : decode b_Mo_route 67 = .ok (.bipush 10, 2) := by decide +kernel
theorem d_Mo_route_69 : decode b_Mo_route 69 = .ok (.iload_n 3, 1) := by decide +kernel
theorem d_Mo_route_70 : decode b_Mo_route 70 = .ok (.bipush 91, 2) := by decide +kernel
theorem d_Mo_route_72 : decode b_Mo_route 72 = .ok (.irem, 1) := by decide +kernel
theorem d_Mo_route_73 : decode b_Mo_route 73 = .ok (.iadd, 1) := by decide +kernel
theorem d_Mo_route_74 : decode b_Mo_route 74 = .ok (.iastore, 1) := by decide +kernel
theorem d_Mo_route_75 : decode b_Mo_route 75 = .ok (.iload 4, 2) := by decide +kernel
theorem d_Mo_route_77 : decode b_Mo_route 77 = .ok (.aload_n 0, 1) := by decide +kernel
theorem d_Mo_route_78 : decode b_Mo_route 78 = .ok (.getfield 57, 3) := by decide +kernel
theorem d_Mo_route_81 : decode b_Mo_route 81 = .ok (.iload 5, 2) := by decide +kernel
theorem d_Mo_route_83 : decode b_Mo_route 83 = .ok (.iaload, 1) := by decide +kernel
theorem d_Mo_route_84 : decode b_Mo_route 84 = .ok (.iadd, 1) := by decide +kernel
theorem d_Mo_route_85 : decode b_Mo_route 85 = .ok (.istore 4, 2) := by decide +kernel
theorem d_Mo_route_87 : decode b_Mo_route 87 = .ok (.iinc 5 1, 3) := by decide +kernel
theorem d_Mo_route_90 : decode b_Mo_route 90 = .ok (.goto (-46), 3) := by decide +kernel
theorem d_Mo_route_93 : decode b_Mo_route 93 = .ok (.aload_n 0, 1) := by decide +kernel
theorem d_Mo_route_94 : decode b_Mo_route 94 = .ok (.iload_n 2, 1) := by decide +kernel
theorem d_Mo_route_95 : decode b_Mo_route 95 = .ok (.putfield 158, 3) := by decide +kernel
theorem d_Mo_route_98 : decode b_Mo_route 98 = .ok (.iload 4, 2) := by decide +kernel
theorem d_Mo_route_100 : decode b_Mo_route 100 = .ok (.ireturn, 1) := by decide +kernel
theorem d_Mo_drop_0 : decode b_Mo_drop 0 = .ok (.aload_n 0, 1) := by decide +kernel
theorem d_Mo_drop_1 : decode b_Mo_drop 1 = .ok (.iload_n 1, 1) := by decide +kernel
theorem d_Mo_drop_2 : decode b_Mo_drop 2 = .ok (.ifCond .lt 15, 3) := by decide +kernel
theorem d_Mo_drop_5 : decode b_Mo_drop 5 = .ok (.iload_n 1, 1) := by decide +kernel
theorem d_Mo_drop_6 : decode b_Mo_drop 6 = .ok (.aload_n 0, 1) := by decide +kernel
theorem d_Mo_drop_7 : decode b_Mo_drop 7 = .ok (.getfield 158, 3) := by decide +kernel
theorem d_Mo_drop_10 : decode b_Mo_drop 10 = .ok (.if_icmp .ge 7, 3) := by decide +kernel
theorem d_Mo_drop_13 : decode b_Mo_drop 13 = .ok (.iconst 1, 1) := by decide +kernel
theorem d_Mo_drop_14 : decode b_Mo_drop 14 = .ok (.goto 4, 3) := by decide +kernel
theorem d_Mo_drop_17 : decode b_Mo_drop 17 = .ok (.iconst 0, 1) := by decide +kernel
theorem d_Mo_drop_18 : decode b_Mo_drop 18 = .ok (.iconst 1, 1) := by decide +kernel
theorem d_Mo_drop_19 : decode b_Mo_drop 19 = .ok (.iconst 1, 1) := by decide +kernel
theorem d_Mo_drop_20 : decode b_Mo_drop 20 = .ok (.invokevirtual 71, 3) := by decide +kernel
theorem d_Mo_drop_23 : decode b_Mo_drop 23 = .ok (.ifCond .eq 12, 3) := by decide +kernel
theorem d_Mo_drop_26 : decode b_Mo_drop 26 = .ok (.aload_n 0, 1) := by decide +kernel
theorem d_Mo_drop_27 : decode b_Mo_drop 27 = .ok (.getfield 57, 3) := by decide +kernel
theorem d_Mo_drop_30 : decode b_Mo_drop 30 = .ok (.iload_n 1, 1) := by decide +kernel
theorem d_Mo_drop_31 : decode b_Mo_drop 31 = .ok (.iaload, 1) := by decide +kernel
theorem d_Mo_drop_32 : decode b_Mo_drop 32 = .ok (.goto 4, 3) := by decide +kernel
theorem d_Mo_drop_35 : decode b_Mo_drop 35 = .ok (.iconst 0, 1) := by decide +kernel
theorem d_Mo_drop_36 : decode b_Mo_drop 36 = .ok (.ireturn, 1) := by decide +kernel
theorem d_Mo_count_0 : decode b_Mo_count 0 = .ok (.aload_n 0, 1) := by decide +kernel
theorem d_Mo_count_1 : decode b_Mo_count 1 = .ok (.iload_n 1, 1) := by decide +kernel
theorem d_Mo_count_2 : decode b_Mo_count 2 = .ok (.iconst 0, 1) := by decide +kernel
theorem d_Mo_count_3 : decode b_Mo_count 3 = .ok (.iconst 5, 1) := by decide +kernel
theorem d_Mo_count_4 : decode b_Mo_count 4 = .ok (.invokestatic 66, 3) := by decide +kernel
theorem d_Mo_count_7 : decode b_Mo_count 7 = .ok (.iconst 1, 1) := by decide +kernel
theorem d_Mo_count_8 : decode b_Mo_count 8 = .ok (.iconst 1, 1) := by decide +kernel
theorem d_Mo_count_9 : decode b_Mo_count 9 = .ok (.invokevirtual 71, 3) := by decide +kernel
theorem d_Mo_count_12 : decode b_Mo_count 12 = .ok (.ifCond .ne 5, 3) := by decide +kernel
theorem d_Mo_count_15 : decode b_Mo_count 15 = .ok (.iconst 0, 1) := by decide +kernel
theorem d_Mo_count_16 : decode b_Mo_count 16 = .ok (.ireturn, 1) := by decide +kernel
theorem d_Mo_count_17 : decode b_Mo_count 17 = .ok (.iconst 0, 1) := by decide +kernel
theorem d_Mo_count_18 : decode b_Mo_count 18 = .ok (.istore_n 2, 1) := by decide +kernel
theorem d_Mo_count_19 : decode b_Mo_count 19 = .ok (.iconst 0, 1) := by decide +kernel
theorem d_Mo_count_20 : decode b_Mo_count 20 = .ok (.istore_n 3, 1) := by decide +kernel
theorem d_Mo_count_21 : decode b_Mo_count 21 = .ok (.iload_n 3, 1) := by decide +kernel
theorem d_Mo_count_22 : decode b_Mo_count 22 = .ok (.aload_n 0, 1) := by decide +kernel
theorem d_Mo_count_23 : decode b_Mo_count 23 = .ok (.getfield 128, 3) := by decide +kernel
theorem d_Mo_count_26 : decode b_Mo_count 26 = .ok (.if_icmp .ge 26, 3) := by decide +kernel
theorem d_Mo_count_29 : decode b_Mo_count 29 = .ok (.aload_n 0, 1) := by decide +kernel
theorem d_Mo_count_30 : decode b_Mo_count 30 = .ok (.getfield 47, 3) := by decide +kernel
theorem d_Mo_count_33 : decode b_Mo_count 33 = .ok (.iload_n 3, 1) := by decide +kernel
theorem d_Mo_count_34 : decode b_Mo_count 34 = .ok (.baload, 1) := by decide +kernel
theorem d_Mo_count_35 : decode b_Mo_count 35 = .ok (.ifCond .eq 9, 3) := by decide +kernel
theorem d_Mo_count_38 : decode b_Mo_count 38 = .ok (.iload_n 2, 1) := by decide +kernel
theorem d_Mo_count_39 : decode b_Mo_count 39 = .ok (.iconst 1, 1) := by decide +kernel
end
section
theorem d_Mo_count_40 : decode b_Mo_count 40 = .ok (.iadd, 1) := by decide +kernel
theorem d_Mo_count_41 : decode b_Mo_count 41 = .ok (.goto 4, 3) := by decide +kernel
theorem d_Mo_count_44 : decode b_Mo_count 44 = .ok (.iload_n 2, 1) := by decide +kernel
theorem d_Mo_count_45 : decode b_Mo_count 45 = .ok (.istore_n 2, 1) := by decide +kernel
theorem d_Mo_count_46 : decode b_Mo_count 46 = .ok (.iinc 3 1, 3) := by decide +kernel
theorem d_Mo_count_49 : decode b_Mo_count 49 = .ok (.goto (-28), 3) := by decide +kernel
theorem d_Mo_count_52 : decode b_Mo_count 52 = .ok (.iload_n 1, 1) := by decide +kernel
theorem d_Mo_count_53 : decode b_Mo_count 53 = .ok (.tableswitch 57 0 4 #[35, 40, 45, 47, 52], 35) := by decide +kernel
theorem d_Mo_count_88 : decode b_Mo_count 88 = .ok (.aload_n 0, 1) := by decide +kernel
theorem d_Mo_count_89 : decode b_Mo_count 89 = .ok (.getfield 63, 3) := by decide +kernel
theorem d_Mo_count_92 : decode b_Mo_count 92 = .ok (.ireturn, 1) := by decide +kernel
theorem d_Mo_count_93 : decode b_Mo_count 93 = .ok (.aload_n 0, 1) := by decide +kernel
theorem d_Mo_count_94 : decode b_Mo_count 94 = .ok (.getfield 128, 3) := by decide +kernel
theorem d_Mo_count_97 : decode b_Mo_count 97 = .ok (.ireturn, 1) := by decide +kernel
theorem d_Mo_count_98 : decode b_Mo_count 98 = .ok (.iload_n 2, 1) := by decide +kernel
theorem d_Mo_count_99 : decode b_Mo_count 99 = .ok (.ireturn, 1) := by decide +kernel
theorem d_Mo_count_100 : decode b_Mo_count 100 = .ok (.aload_n 0, 1) := by decide +kernel
theorem d_Mo_count_101 : decode b_Mo_count 101 = .ok (.getfield 138, 3) := by decide +kernel
theorem d_Mo_count_104 : decode b_Mo_count 104 = .ok (.ireturn, 1) := by decide +kernel
theorem d_Mo_count_105 : decode b_Mo_count 105 = .ok (.aload_n 0, 1) := by decide +kernel
theorem d_Mo_count_106 : decode b_Mo_count 106 = .ok (.getfield 150, 3) := by decide +kernel
theorem d_Mo_count_109 : decode b_Mo_count 109 = .ok (.ireturn, 1) := by decide +kernel
theorem d_Mo_count_110 : decode b_Mo_count 110 = .ok (.aload_n 0, 1) := by decide +kernel
theorem d_Mo_count_111 : decode b_Mo_count 111 = .ok (.getfield 153, 3) := by decide +kernel
theorem d_Mo_count_114 : decode b_Mo_count 114 = .ok (.ireturn, 1) := by decide +kernel
end
section
-- ===== general words: results, guards, loops =====
/-- a value that gets a name -/
def letb {A O : Type} (e : A) (k : A → O) : O := k e
theorem letb_i {A O : Type} {e : A} {k : A → Option O} {o : O} (h : letb e k = some o) : ∃ x, x = e ∧ k x = some o := ⟨e, rfl, h⟩
/-- what must hold, else the road is stuck -/
def gd {O : Type} (c : Prop) [Decidable c] (x : Option O) : Option O := if c then x else none
theorem gd_i {O : Type} {c : Prop} [Decidable c] {x : Option O} {o : O} (h : gd c x = some o) : c ∧ x = some o := by
  unfold gd at h
  split at h
  · exact ⟨by assumption, h⟩
  · cases h
theorem gd_t {O : Type} {c : Prop} [Decidable c] (h : c) {x : Option O} : gd c x = x := if_pos h
/-- a call: its value, or what it threw -/
def xc {A O : Type} (o : Option (A ⊕ String)) (kt : String → Option O) (k : A → Option O) : Option O := match o with
  | none => none
  | some (.inl a) => k a
  | some (.inr x) => kt x
theorem xc_i {A O : Type} {o : Option (A ⊕ String)} {kt : String → Option O} {k : A → Option O} {b : O} (h : xc o kt k = some b) : (∃ a, o = some (.inl a) ∧ k a = some b) ∨ (∃ E, o = some (.inr E) ∧ kt E = some b) := by
  match o, h with
  | some (.inl a), h => exact Or.inl ⟨a, rfl, h⟩
  | some (.inr x), h => exact Or.inr ⟨x, rfl, h⟩
theorem xc_l {A O : Type} {kt : String → Option O} {k : A → Option O} (a : A) : xc (some (.inl a)) kt k = k a := rfl
theorem xc_r {A O : Type} {kt : String → Option O} {k : A → Option O} (x : String) : xc (A := A) (some (.inr x)) kt k = kt x := rfl
/-- a call that never throws -/
def xv {A O : Type} (o : Option A) (k : A → Option O) : Option O := match o with
  | none => none
  | some a => k a
theorem xv_i {A O : Type} {o : Option A} {k : A → Option O} {b : O} (h : xv o k = some b) : ∃ a, o = some a ∧ k a = some b := by
  match o, h with
  | some a, h => exact ⟨a, rfl, h⟩
theorem xv_s {A O : Type} {k : A → Option O} (a : A) : xv (some a) k = k a := rfl
def it1 {O A1 : Type} (f : (A1 → Option O) → A1 → Option O) : Nat → A1 → Option O
  | 0, _ => none
  | n + 1, a1 => f (it1 f n) a1
theorem it1_s {O A1 : Type} {f : (A1 → Option O) → A1 → Option O} {n : Nat} {a1 : A1} : it1 f (n + 1) a1 = f (it1 f n) a1 := rfl
theorem it1_0 {O A1 : Type} {f : (A1 → Option O) → A1 → Option O} {a1 : A1} {o : O} (h : it1 f 0 a1 = some o) : False := by cases h
def it2 {O A1 A2 : Type} (f : (A1 → A2 → Option O) → A1 → A2 → Option O) : Nat → A1 → A2 → Option O
  | 0, _, _ => none
  | n + 1, a1, a2 => f (it2 f n) a1 a2
theorem it2_s {O A1 A2 : Type} {f : (A1 → A2 → Option O) → A1 → A2 → Option O} {n : Nat} {a1 : A1} {a2 : A2} : it2 f (n + 1) a1 a2 = f (it2 f n) a1 a2 := rfl
theorem it2_0 {O A1 A2 : Type} {f : (A1 → A2 → Option O) → A1 → A2 → Option O} {a1 : A1} {a2 : A2} {o : O} (h : it2 f 0 a1 a2 = some o) : False := by cases h
def it3 {O A1 A2 A3 : Type} (f : (A1 → A2 → A3 → Option O) → A1 → A2 → A3 → Option O) : Nat → A1 → A2 → A3 → Option O
  | 0, _, _, _ => none
  | n + 1, a1, a2, a3 => f (it3 f n) a1 a2 a3
theorem it3_s {O A1 A2 A3 : Type} {f : (A1 → A2 → A3 → Option O) → A1 → A2 → A3 → Option O} {n : Nat} {a1 : A1} {a2 : A2} {a3 : A3} : it3 f (n + 1) a1 a2 a3 = f (it3 f n) a1 a2 a3 := rfl
theorem it3_0 {O A1 A2 A3 : Type} {f : (A1 → A2 → A3 → Option O) → A1 → A2 → A3 → Option O} {a1 : A1} {a2 : A2} {a3 : A3} {o : O} (h : it3 f 0 a1 a2 a3 = some o) : False := by cases h
def it4 {O A1 A2 A3 A4 : Type} (f : (A1 → A2 → A3 → A4 → Option O) → A1 → A2 → A3 → A4 → Option O) : Nat → A1 → A2 → A3 → A4 → Option O
  | 0, _, _, _, _ => none
  | n + 1, a1, a2, a3, a4 => f (it4 f n) a1 a2 a3 a4
theorem it4_s {O A1 A2 A3 A4 : Type} {f : (A1 → A2 → A3 → A4 → Option O) → A1 → A2 → A3 → A4 → Option O} {n : Nat} {a1 : A1} {a2 : A2} {a3 : A3} {a4 : A4} : it4 f (n + 1) a1 a2 a3 a4 = f (it4 f n) a1 a2 a3 a4 := rfl
theorem it4_0 {O A1 A2 A3 A4 : Type} {f : (A1 → A2 → A3 → A4 → Option O) → A1 → A2 → A3 → A4 → Option O} {a1 : A1} {a2 : A2} {a3 : A3} {a4 : A4} {o : O} (h : it4 f 0 a1 a2 a3 a4 = some o) : False := by cases h
def it5 {O A1 A2 A3 A4 A5 : Type} (f : (A1 → A2 → A3 → A4 → A5 → Option O) → A1 → A2 → A3 → A4 → A5 → Option O) : Nat → A1 → A2 → A3 → A4 → A5 → Option O
  | 0, _, _, _, _, _ => none
  | n + 1, a1, a2, a3, a4, a5 => f (it5 f n) a1 a2 a3 a4 a5
theorem it5_s {O A1 A2 A3 A4 A5 : Type} {f : (A1 → A2 → A3 → A4 → A5 → Option O) → A1 → A2 → A3 → A4 → A5 → Option O} {n : Nat} {a1 : A1} {a2 : A2} {a3 : A3} {a4 : A4} {a5 : A5} : it5 f (n + 1) a1 a2 a3 a4 a5 = f (it5 f n) a1 a2 a3 a4 a5 := rfl
theorem it5_0 {O A1 A2 A3 A4 A5 : Type} {f : (A1 → A2 → A3 → A4 → A5 → Option O) → A1 → A2 → A3 → A4 → A5 → Option O} {a1 : A1} {a2 : A2} {a3 : A3} {a4 : A4} {a5 : A5} {o : O} (h : it5 f 0 a1 a2 a3 a4 a5 = some o) : False := by cases h
def it6 {O A1 A2 A3 A4 A5 A6 : Type} (f : (A1 → A2 → A3 → A4 → A5 → A6 → Option O) → A1 → A2 → A3 → A4 → A5 → A6 → Option O) : Nat → A1 → A2 → A3 → A4 → A5 → A6 → Option O
  | 0, _, _, _, _, _, _ => none
  | n + 1, a1, a2, a3, a4, a5, a6 => f (it6 f n) a1 a2 a3 a4 a5 a6
theorem it6_s {O A1 A2 A3 A4 A5 A6 : Type} {f : (A1 → A2 → A3 → A4 → A5 → A6 → Option O) → A1 → A2 → A3 → A4 → A5 → A6 → Option O} {n : Nat} {a1 : A1} {a2 : A2} {a3 : A3} {a4 : A4} {a5 : A5} {a6 : A6} : it6 f (n + 1) a1 a2 a3 a4 a5 a6 = f (it6 f n) a1 a2 a3 a4 a5 a6 := rfl
theorem it6_0 {O A1 A2 A3 A4 A5 A6 : Type} {f : (A1 → A2 → A3 → A4 → A5 → A6 → Option O) → A1 → A2 → A3 → A4 → A5 → A6 → Option O} {a1 : A1} {a2 : A2} {a3 : A3} {a4 : A4} {a5 : A5} {a6 : A6} {o : O} (h : it6 f 0 a1 a2 a3 a4 a5 a6 = some o) : False := by cases h
def it7 {O A1 A2 A3 A4 A5 A6 A7 : Type} (f : (A1 → A2 → A3 → A4 → A5 → A6 → A7 → Option O) → A1 → A2 → A3 → A4 → A5 → A6 → A7 → Option O) : Nat → A1 → A2 → A3 → A4 → A5 → A6 → A7 → Option O
  | 0, _, _, _, _, _, _, _ => none
  | n + 1, a1, a2, a3, a4, a5, a6, a7 => f (it7 f n) a1 a2 a3 a4 a5 a6 a7
theorem it7_s {O A1 A2 A3 A4 A5 A6 A7 : Type} {f : (A1 → A2 → A3 → A4 → A5 → A6 → A7 → Option O) → A1 → A2 → A3 → A4 → A5 → A6 → A7 → Option O} {n : Nat} {a1 : A1} {a2 : A2} {a3 : A3} {a4 : A4} {a5 : A5} {a6 : A6} {a7 : A7} : it7 f (n + 1) a1 a2 a3 a4 a5 a6 a7 = f (it7 f n) a1 a2 a3 a4 a5 a6 a7 := rfl
theorem it7_0 {O A1 A2 A3 A4 A5 A6 A7 : Type} {f : (A1 → A2 → A3 → A4 → A5 → A6 → A7 → Option O) → A1 → A2 → A3 → A4 → A5 → A6 → A7 → Option O} {a1 : A1} {a2 : A2} {a3 : A3} {a4 : A4} {a5 : A5} {a6 : A6} {a7 : A7} {o : O} (h : it7 f 0 a1 a2 a3 a4 a5 a6 a7 = some o) : False := by cases h
def it8 {O A1 A2 A3 A4 A5 A6 A7 A8 : Type} (f : (A1 → A2 → A3 → A4 → A5 → A6 → A7 → A8 → Option O) → A1 → A2 → A3 → A4 → A5 → A6 → A7 → A8 → Option O) : Nat → A1 → A2 → A3 → A4 → A5 → A6 → A7 → A8 → Option O
  | 0, _, _, _, _, _, _, _, _ => none
  | n + 1, a1, a2, a3, a4, a5, a6, a7, a8 => f (it8 f n) a1 a2 a3 a4 a5 a6 a7 a8
theorem it8_s {O A1 A2 A3 A4 A5 A6 A7 A8 : Type} {f : (A1 → A2 → A3 → A4 → A5 → A6 → A7 → A8 → Option O) → A1 → A2 → A3 → A4 → A5 → A6 → A7 → A8 → Option O} {n : Nat} {a1 : A1} {a2 : A2} {a3 : A3} {a4 : A4} {a5 : A5} {a6 : A6} {a7 : A7} {a8 : A8} : it8 f (n + 1) a1 a2 a3 a4 a5 a6 a7 a8 = f (it8 f n) a1 a2 a3 a4 a5 a6 a7 a8 := rfl
theorem it8_0 {O A1 A2 A3 A4 A5 A6 A7 A8 : Type} {f : (A1 → A2 → A3 → A4 → A5 → A6 → A7 → A8 → Option O) → A1 → A2 → A3 → A4 → A5 → A6 → A7 → A8 → Option O} {a1 : A1} {a2 : A2} {a3 : A3} {a4 : A4} {a5 : A5} {a6 : A6} {a7 : A7} {a8 : A8} {o : O} (h : it8 f 0 a1 a2 a3 a4 a5 a6 a7 a8 = some o) : False := by cases h
def it9 {O A1 A2 A3 A4 A5 A6 A7 A8 A9 : Type} (f : (A1 → A2 → A3 → A4 → A5 → A6 → A7 → A8 → A9 → Option O) → A1 → A2 → A3 → A4 → A5 → A6 → A7 → A8 → A9 → Option O) : Nat → A1 → A2 → A3 → A4 → A5 → A6 → A7 → A8 → A9 → Option O
  | 0, _, _, _, _, _, _, _, _, _ => none
  | n + 1, a1, a2, a3, a4, a5, a6, a7, a8, a9 => f (it9 f n) a1 a2 a3 a4 a5 a6 a7 a8 a9
theorem it9_s {O A1 A2 A3 A4 A5 A6 A7 A8 A9 : Type} {f : (A1 → A2 → A3 → A4 → A5 → A6 → A7 → A8 → A9 → Option O) → A1 → A2 → A3 → A4 → A5 → A6 → A7 → A8 → A9 → Option O} {n : Nat} {a1 : A1} {a2 : A2} {a3 : A3} {a4 : A4} {a5 : A5} {a6 : A6} {a7 : A7} {a8 : A8} {a9 : A9} : it9 f (n + 1) a1 a2 a3 a4 a5 a6 a7 a8 a9 = f (it9 f n) a1 a2 a3 a4 a5 a6 a7 a8 a9 := rfl
theorem it9_0 {O A1 A2 A3 A4 A5 A6 A7 A8 A9 : Type} {f : (A1 → A2 → A3 → A4 → A5 → A6 → A7 → A8 → A9 → Option O) → A1 → A2 → A3 → A4 → A5 → A6 → A7 → A8 → A9 → Option O} {a1 : A1} {a2 : A2} {a3 : A3} {a4 : A4} {a5 : A5} {a6 : A6} {a7 : A7} {a8 : A8} {a9 : A9} {o : O} (h : it9 f 0 a1 a2 a3 a4 a5 a6 a7 a8 a9 = some o) : False := by cases h
/-- the turns that a loop may take; far above what any needs -/
def FU : Nat := 5000
/-- a store: cell k, place i -/
abbrev St : Type := Nat → Nat → Int32
def up2 (g : St) (k i : Nat) (v : Int32) : St := fun k' => if k' = k then upd (g k) i v else g k'
theorem up2_at {g : St} {k i k' j : Nat} {v : Int32} : up2 g k i v k' j = if k' = k ∧ j = i then v else g k' j := by
  unfold up2 upd
  by_cases h : k' = k
  · subst h
    by_cases h2 : j = i <;> simp [h2]
  · simp [h]
theorem up2_n {g : St} {k i k' : Nat} {v : Int32} (h : k' ≠ k) : up2 g k i v k' = g k' := if_neg h
/-- a place within -/
def inb (i : Int32) (n : Nat) : Bool := decide (0 ≤ i.toInt ∧ i.toInt < n)
theorem inb_in {i : Int32} {n : Nat} (h : inb i n = true) : vp_in i n := vp_in_iff.mpr (of_decide_eq_true h)
theorem inb_of {n k : Nat} (h : n < k) (hk : k < 2 ^ 31) : inb (nI n) k = true := by
  unfold inb
  rw [nI_toInt (by omega)]
  exact decide_eq_true ⟨by omega, by omega⟩
/-- a guard by a Bool -/
def gb {O : Type} (c : Bool) (x : Option O) : Option O := match c with
  | true => x
  | false => none
theorem gb_i {O : Type} {c : Bool} {x : Option O} {o : O} (h : gb c x = some o) : c = true ∧ x = some o := by
  cases c
  · cases h
  · exact ⟨rfl, h⟩
theorem gb_t {O : Type} {c : Bool} (h : c = true) {x : Option O} : gb c x = x := by rw [h]; rfl
def nz (y : Int32) : Bool := decide (¬ y = 0)
theorem nz_i {y : Int32} (h : nz y = true) : ¬ y = 0 := of_decide_eq_true h
abbrev TYS (cI cZ cJ : ClassId) : List (ClassId × FieldType) := [(cI, .int), (cZ, .boolean), (cJ, .long)]
def NF : List (String × Nat × String × String × String × String) := [(R_Pk, 99, R_Go, "sizes", "[I", R_Cc), (R_Pk, 28, R_Go, "count", "I", R_Cc), (R_Cc, 88, R_Go, "count", "I", R_Cc), (R_Cc, 135, R_Sk, "count", "I", R_Cc), (R_Cc, 140, R_Ai, "hours", "I", R_Cc), (R_Cc, 143, R_Sh, "count", "I", R_Cc), (R_Cc, 144, R_Sh, "toldCount", "I", R_Cc), (R_Go, 43, R_Cc, "SIZE_OF_WAY", "[I", R_Cc)]
def NM : List (String × Nat × MethodName × String) := [(R_Go, 31, y_Cc_requireRoom, R_Cc), (R_Go, 35, y_Cc_requireRange, R_Cc), (R_Go, 40, y_Cc_requireIndex, R_Cc), (R_Fo, 27, y_Cc_requireIndex, R_Cc), (R_Fo, 31, y_Cc_requireRoom, R_Cc), (R_Fo, 34, y_Cc_requireRange, R_Cc), (R_Pk, 46, y_Cc_requireRange, R_Cc), (R_Pk, 77, y_Cc_requireIndex, R_Cc), (R_Sk, 29, y_Cc_requireRoom, R_Cc), (R_Sk, 33, y_Cc_requireRange, R_Cc), (R_Sk, 45, y_Cc_requireIndex, R_Cc), (R_Ai, 22, y_Cc_requireRange, R_Cc), (R_Ai, 26, y_Cc_requireRoom, R_Cc), (R_Ai, 39, y_Cc_requireIndex, R_Cc), (R_Sh, 24, y_Cc_requireRange, R_Cc), (R_Jo, 20, y_Cc_requireRange, R_Cc), (R_Jo, 25, y_Cc_requireIndex, R_Cc)]
def NCa : List String := ["java/lang/IllegalStateException", "java/lang/IllegalArgumentException", "java/lang/IndexOutOfBoundsException"]
def NDe : List MethodName := [⟨"java/lang/RuntimeException", "<init>", "(Ljava/lang/String;)V"⟩, ⟨"java/lang/Exception", "<init>", "(Ljava/lang/String;)V"⟩, ⟨"java/lang/Throwable", "<init>", "(Ljava/lang/String;)V"⟩]
def NNc : List (String × String) := [("java/lang/IllegalStateException", "java/lang/IllegalArgumentException"), ("java/lang/IllegalStateException", "java/lang/IndexOutOfBoundsException"), ("java/lang/IllegalArgumentException", "java/lang/IllegalStateException"), ("java/lang/IllegalArgumentException", "java/lang/IndexOutOfBoundsException"), ("java/lang/IndexOutOfBoundsException", "java/lang/IllegalStateException"), ("java/lang/IndexOutOfBoundsException", "java/lang/IllegalArgumentException")]
def SW : List (String × Nat × String) := [(R_Cc, 163, "no room for more"), (R_Cc, 158, "out of range"), (R_Cc, 154, "no such number"), (R_Pk, 36, "no such object"), (R_Pk, 43, "empty set"), (R_Pk, 88, "nothing was packed"), (R_Pk, 84, "no such place"), (R_Go, 56, "grams below 1"), (R_Ai, 44, "low above high"), (R_Cc, 149, "no such count")]
/-- SIZE_OF_WAY -/
def wayT : Nat → Int32 := fun j => ([0, 1, 2, 1, 0, 2, 0, 2, 1, 2, 0, 1, 1, 2, 0, 2, 1, 0] : List Int32).getD j 0
/-- what is there from the start and stays: words of nests, texts, statics -/
def EV (A : Nat → Prop) (U : State) (H : Heap) : Prop :=
  (∀ q ∈ NF, va_Nw (.fieldLinkNest q.1 q.2.1 q.2.2.1 q.2.2.2.1 q.2.2.2.2.1 q.2.2.2.2.2) U) ∧ (∀ q ∈ NM, va_Nw (.methodLinkNest q.1 q.2.1 q.2.2.1 q.2.2.2) U) ∧ (∀ q ∈ NCa, va_Nw (.castable q q) U) ∧ (∀ q ∈ NDe, va_Nw (.declares q) U) ∧ (∀ q ∈ NNc, va_Nc q.1 q.2 U) ∧
  (∀ q ∈ SW, ∃ a, vk_R q.1 q.2.1 q.2.2 a U) ∧ vx_Zq Bundle.tN "UNASSIGNED_STACK" Bundle.steD A U H ∧ vx_Zq Bundle.tN "SUPPRESSED_SENTINEL" Bundle.listD A U H ∧ ∃ t, va_Z R_Cc "SIZE_OF_WAY" "[I" (.ref t) A U H ∧ va_T .int t 18 (fun j => .int (wayT j)) A U H
theorem EV.kept {A : Nat → Prop} {U : State} {H H1 : Heap} (h : EV A U H) (hq : ∀ a : Nat, a < H.size → ¬ A a → H1[a]? = H[a]?) : EV A U H1 := by
  obtain ⟨h1, h2, h3, h4, h5, h6, h7, h8, t, h9, h10⟩ := h
  exact ⟨h1, h2, h3, h4, h5, h6, h7.kept hq, h8.kept hq, t, h9.kept hq, h10.kept hq⟩
theorem EV.narrow {A B : Nat → Prop} {U : State} {H : Heap} (h : EV A U H) (hq : ∀ q, B q → A q) : EV B U H := by
  obtain ⟨h1, h2, h3, h4, h5, h6, h7, h8, t, h9, h10⟩ := h
  exact ⟨h1, h2, h3, h4, h5, h6, h7.narrow hq, h8.narrow hq, t, h9.narrow hq, h10.narrow hq⟩
theorem EV.warm {A : Nat → Prop} {s U : State} {H : Heap} (hW : s.WarmedH U.vm) (h : EV A s H) : EV A U H := by
  obtain ⟨h1, h2, h3, h4, h5, h6, h7, h8, t, h9, h10⟩ := h
  exact ⟨fun q hq => va_Nw.warmF hW (h1 q hq), fun q hq => va_Nw.warmM hW (h2 q hq), fun q hq => va_Nw.warmC hW (h3 q hq), fun q hq => va_Nw.warmD hW (h4 q hq), fun q hq => va_Nc.moved hW.alike (h5 q hq), fun q hq => by obtain ⟨a, ha⟩ := h6 q hq; exact ⟨a, vk_R.warm hW ha⟩, vx_Zq.moved hW.alike h7, vx_Zq.moved hW.alike h8, t, va_Z.moved hW.alike h9, va_T.moved hW.alike h10⟩
theorem EV.same {A : Nat → Prop} {u U : State} {H : Heap} (hv : u.vm = U.vm) (h : EV A u H) : EV A U H := by
  obtain ⟨h1, h2, h3, h4, h5, h6, h7, h8, t, h9, h10⟩ := h
  have ha : u.vm.Alike U.vm := by rw [hv]; exact Vm.Alike.refl U.vm
  exact ⟨fun q hq => va_Nw.same rfl hv (h1 q hq), fun q hq => va_Nw.same rfl hv (h2 q hq), fun q hq => va_Nw.same rfl hv (h3 q hq), fun q hq => va_Nw.same rfl hv (h4 q hq), fun q hq => va_Nc.moved ha (h5 q hq), fun q hq => by obtain ⟨a, ha⟩ := h6 q hq; exact ⟨a, vk_R.same hv.symm ha⟩, vx_Zq.moved ha h7, vx_Zq.moved ha h8, t, va_Z.moved ha h9, va_T.moved ha h10⟩
theorem WL_good {w : Cond} (h : w ∈ WL) : GoodIn WL (w :: WL) := fun w' h' => by
  have h2 : w' ∈ WL := (List.mem_cons.mp h').elim (fun e => by rw [e]; exact h) id
  exact ⟨h2, good_of_word (List.mem_filter.mp h2).2⟩
/-- a method's start -/
def cPc (D : va_G) (ty : List (ClassId × FieldType)) (av : List Value) (ws : va_W) (sz : Nat) : Array Value → State → Prop := va_Pc av (fun U => U.heap.size = sz ∧ va_P D vwCl ws U.heap ∧ va_K D vwCl ty U ∧ va_D (fun _ => True) ws ∧ EV (va_A ws sz) U U.heap)
theorem cPc_blind {D : va_G} {ty : List (ClassId × FieldType)} {av : List Value} {ws : va_W} {sz : Nat} : FrameBlind (cPc D ty av ws sz) := fun a U g mk q => by
  obtain ⟨q0, q1, qP, qK, qD, qE⟩ := q
  exact ⟨q0, q1, qP, va_K.moved (u := U) (U := U.calling g mk a) (Vm.Alike.refl U.vm) qK, qD, EV.same (u := U) (U := U.calling g mk a) rfl qE⟩
/-- the world at a method's end -/
def cB (D : va_G) (ty : List (ClassId × FieldType)) (A : Nat → Prop) (ws : va_W) (t : State) : Prop := va_P D vwCl ws t.heap ∧ va_K D vwCl ty t ∧ va_D A ws
/-- it returns the int r, the world is then w1 -/
def MI (l : Launch) (y : MethodName) (b : ByteArray) (n : Nat) (rt : Option FieldType) (rm : Room) (D : va_G) (ty : List (ClassId × FieldType)) (av : List Value) (ws : va_W) (sz : Nat) (r : Int32) (w1 : va_W) : Prop :=
  Met l y (.code y b n rt :: WL) rm (cPc D ty av ws sz) (va_Qi (fun (r' : Int32) (_ : Unit) => r' = r) (fun _ t => cB D ty (va_A ws sz) w1 t) (va_A ws sz)) 0 0 (va_A ws sz)
def MV (l : Launch) (y : MethodName) (b : ByteArray) (n : Nat) (rt : Option FieldType) (rm : Room) (D : va_G) (ty : List (ClassId × FieldType)) (av : List Value) (ws : va_W) (sz : Nat) (w1 : va_W) : Prop :=
  Met l y (.code y b n rt :: WL) rm (cPc D ty av ws sz) (va_Qv (fun (_ : Unit) => True) (fun _ t => cB D ty (va_A ws sz) w1 t) (va_A ws sz)) 0 0 (va_A ws sz)
/-- it throws E, the world stays -/
def XE (D : va_G) (ty : List (ClassId × FieldType)) (ws : va_W) (sz : Nat) (E : String) : String → State → State → Prop := vx_X (fun (_ : Unit) => True) (fun E' _ t => E' = E ∧ cB D ty (va_A ws sz) ws t) (va_A ws sz)
def MT (l : Launch) (y : MethodName) (b : ByteArray) (n : Nat) (rt : Option FieldType) (rm : Room) (D : va_G) (ty : List (ClassId × FieldType)) (av : List Value) (ws : va_W) (sz : Nat) (E : String) : Prop :=
  vx_Met l y (.code y b n rt :: WL) rm (cPc D ty av ws sz) (fun _ _ _ _ => False) (XE D ty ws sz E) 1 6 (va_A ws sz)
/-- what a walk knows of its method -/
def CX (p : Program) (s : State) (m : MethodId) (args : Array Value) (c : Code) (own : String) (cc : ByteArray) (nL : Nat) (D : va_G) (ty : List (ClassId × FieldType)) (A : Nat → Prop) : Prop :=
  p.tables.exec = Jvm.exec ∧ c.code = cc ∧ c.maxLocals = nL ∧ s.vm.findClass own = some m.cls ∧ (∀ w ∈ WL, w.before args s = true) ∧ va_K D vwCl ty s ∧ EV A s s.heap ∧ (∀ q, s.heap.size ≤ q → A q)
/-- what is known of a method that is called -/
def YV (y : MethodName) (b : ByteArray) (n : Nat) (rt : Option FieldType) (k : Nat) : Prop := Cond.code y b n rt ∈ WL ∧ Cond.initialized y.cls ∈ WL ∧ Cond.instanceMethod y ∈ WL ∧ Cond.selects y.cls y y ∈ WL ∧ (y.cls ≠ "java/lang/invoke/MethodHandle" ∧ y.cls ≠ "java/lang/invoke/VarHandle" ∧ (parseMethodDescriptor y.desc).map (fun d => d.parameters.length) = some k)
def YS (y : MethodName) (b : ByteArray) (n : Nat) (rt : Option FieldType) (k : Nat) : Prop := Cond.code y b n rt ∈ WL ∧ Cond.initialized y.cls ∈ WL ∧ Cond.static y ∈ WL ∧ (y.cls ≠ "java/lang/invoke/MethodHandle" ∧ y.cls ≠ "java/lang/invoke/VarHandle" ∧ (parseMethodDescriptor y.desc).map (fun d => d.parameters.length) = some k)
/-- the cells at the places is get what qs says -/
def rp : va_W → List Nat → va_W → va_W
  | ws, i :: is, q :: qs => rp (ws.set i q) is qs
  | ws, _, _ => ws
theorem rp_get : ∀ (is : List Nat) (qs : va_W) (ws : va_W), is.length = qs.length → (∀ (i j a : Nat), is[i]? = some a → is[j]? = some a → i = j) → (∀ i ∈ is, i < ws.length) → ∀ (i : Nat), (i ∉ is → (rp ws is qs)[i]? = ws[i]?) ∧ (∀ (j : Nat), is[j]? = some i → (rp ws is qs)[i]? = qs[j]?)
  | [], qs, ws, _, _, _, i => ⟨fun _ => by simp [rp], fun j h => by simp at h⟩
  | x :: is, [], ws, hl, _, _, i => by simp at hl
  | x :: is, q :: qs, ws, hl, hinj, hlt, i => by
    have ih := rp_get is qs (ws.set x q) (by simpa using hl) (fun a b c h1 h2 => by have := hinj (a + 1) (b + 1) c (by simpa using h1) (by simpa using h2); omega) (fun i hi => by rw [List.length_set]; exact hlt i (List.mem_cons_of_mem _ hi)) i
    constructor
    · intro h
      rw [show rp ws (x :: is) (q :: qs) = rp (ws.set x q) is qs from rfl, ih.1 (fun h2 => h (List.mem_cons_of_mem _ h2)), List.getElem?_set_ne (fun e => h (by rw [e]; exact List.mem_cons_self))]
    · intro j hj
      cases j with
      | zero =>
        have hx : x = i := by simpa using hj
        subst hx
        have hni : x ∉ is := fun h2 => by
          obtain ⟨k, hk⟩ := List.getElem?_of_mem h2
          have := hinj 0 (k + 1) x rfl (by simpa using hk)
          omega
        rw [show rp ws (x :: is) (q :: qs) = rp (ws.set x q) is qs from rfl, ih.1 hni, List.getElem?_set_self (hlt x List.mem_cons_self)]
        rfl
      | succ j => exact ih.2 j (by simpa using hj)
section CALLS
theorem lv_topn {p : Program} {l : Launch} {e : Env} {R : Room} {s : State} {m : MethodId} {args : Array Value} {below : List Frame} {meth : Method} {c : Code} {H : Heap} {locs : List Loc} {cells slots : Nat} {Q : State → Prop} {pc : Nat} {ls : Array Slot} {rest : List Value} {x y : Int32} (h : y = x) (k : W p l e R s m args below meth c H locs cells slots Q (F0 m pc ls (.int y :: rest))) : W p l e R s m args below meth c H locs cells slots Q (F0 m pc ls (.int x :: rest)) := h ▸ k
theorem lv_topnl {p : Program} {l : Launch} {e : Env} {R : Room} {s : State} {m : MethodId} {args : Array Value} {below : List Frame} {meth : Method} {c : Code} {H : Heap} {locs : List Loc} {cells slots : Nat} {Q : State → Prop} {pc : Nat} {ls : Array Slot} {rest : List Value} {x y : Int64} (h : y = x) (k : W p l e R s m args below meth c H locs cells slots Q (F0 m pc ls (.long y :: rest))) : W p l e R s m args below meth c H locs cells slots Q (F0 m pc ls (.long x :: rest)) := h ▸ k
variable {p : Program} {l : Launch} {e : Env} {R : Room} {s : State} {m : MethodId} {args : Array Value} {below : List Frame} {meth : Method} {c : Code} {H : Heap} {locs : List Loc} {cells slots : Nat} {Q : State → Prop}
variable {own : String} {cc b : ByteArray} {nL n k index pc ci : Nat} {rt : Option FieldType} {rm : Room} {D : va_G} {ty : List (ClassId × FieldType)} {A : Nat → Prop} {y : MethodName} {As rest : List Value} {ls : Array Slot} {a : Nat} {fs : List Value} {ws wc wr w1 ws' : va_W} {r : Int32} {E host : String} {T : u_T} {N : Nat} {sz0 : Nat} {Qc : Array Value → State → Outcome → State → Prop} {free : Addr → Prop} {mc ms : Nat} {w0 : va_W}
theorem c_at {av : List Value} (C0 : CX p s m args c own cc nL D ty A) (hP : va_P D vwCl ws H) (hD : va_D A ws) (hS : va_S A s.heap H locs) (isC : List Nat) (hC : isC.map (fun i => ws[i]?) = wc.map some) (hn : va_nd isC = true) : ∀ U : State, U.heap = H → s.WarmedH U.vm → cPc D ty av wc H.size av.toArray U := by
  obtain ⟨-, -, -, -, -, hK, hE, hA⟩ := C0
  intro U hU hW
  have hFc := va_free (wc := wc) hD hS hA isC hC
  have hPc : va_P D vwCl wc H := fun j q hq => by
    have h1 : (isC.map (fun i => ws[i]?))[j]? = some (some q) := by rw [hC, List.getElem?_map, hq]; rfl
    rw [List.getElem?_map] at h1
    cases hi : isC[j]? with
    | none => rw [hi] at h1; cases h1
    | some i =>
      rw [hi] at h1
      exact hP i q (Option.some.inj h1)
  exact ⟨rfl, by rw [hU], by rw [hU]; exact hPc, va_K.moved hW.alike hK, (hD.sub isC hn hC).weaken (fun _ _ _ _ => trivial), by rw [hU]; exact EV.warm hW ((hE.kept hS.2.1).narrow hFc)⟩
theorem c_in (isC : List Nat) (hC : isC.map (fun i => ws[i]?) = wc.map some) {j : Nat} {q : Nat × va_E} (hq : wc[j]? = some q) : ∃ i, isC[j]? = some i ∧ ws[i]? = some q := by
  have h1 : (isC.map (fun i => ws[i]?))[j]? = some (some q) := by rw [hC, List.getElem?_map, hq]; rfl
  rw [List.getElem?_map] at h1
  cases hi : isC[j]? with
  | none => rw [hi] at h1; cases h1
  | some i =>
    rw [hi] at h1
    exact ⟨i, rfl, Option.some.inj h1⟩
theorem c_kk (C0 : CX p s m args c own cc nL D ty A) (hP : va_P D vwCl ws H) (hD : va_D A ws) (hS : va_S A s.heap H locs) (isC : List Nat) (hC : isC.map (fun i => ws[i]?) = wc.map some) (hn : va_nd isC = true) (hw : w1.map (fun q => q.1) = wc.map (fun q => q.1))
    {t : State} {H1 : Heap} (ht : t.heap = H1) (hb : cB D ty (va_A wc H.size) w1 t) (hk : ∀ q : Nat, q < H.size → ¬ va_A wc H.size q → H1[q]? = H[q]?) : va_P D vwCl (rp ws isC w1) H1 ∧ va_D A (rp ws isC w1) := by
  obtain ⟨hP1, -, -⟩ := hb
  rw [ht] at hP1
  have hl1 : isC.length = w1.length := by
    have e1 := congrArg List.length hC
    have e2 := congrArg List.length hw
    simp only [List.length_map] at e1 e2
    omega
  have hinj := va_nd_inj isC hn
  have hlt : ∀ i ∈ isC, i < ws.length := by
    intro i hi
    obtain ⟨j, hj⟩ := List.getElem?_of_mem hi
    have h1 : (isC.map (fun i => ws[i]?))[j]? = some (ws[i]?) := by rw [List.getElem?_map, hj]; rfl
    rw [hC, List.getElem?_map] at h1
    cases hq : wc[j]? with
    | none => rw [hq] at h1; cases h1
    | some q =>
      rw [hq] at h1
      have h2 : some q = ws[i]? := Option.some.inj h1
      exact (List.getElem?_eq_some_iff.mp h2.symm).1
  have G := rp_get isC w1 ws hl1 hinj hlt
  have addr : ∀ (i : Nat) (q : Nat × va_E), (rp ws isC w1)[i]? = some q → ∃ q', ws[i]? = some q' ∧ q'.1 = q.1 := by
    intro i q hq
    by_cases hi : i ∈ isC
    · obtain ⟨j, hj⟩ := List.getElem?_of_mem hi
      have e := (G i).2 j hj
      rw [hq] at e
      have e3 : (w1.map (fun q => q.1))[j]? = some q.1 := by rw [List.getElem?_map, ← e]; rfl
      rw [hw, List.getElem?_map] at e3
      cases hc : wc[j]? with
      | none => rw [hc] at e3; cases e3
      | some q' =>
        rw [hc] at e3
        obtain ⟨i', h1, h2⟩ := c_in isC hC hc
        cases Option.some.inj (hj.symm.trans h1)
        exact ⟨q', h2, Option.some.inj e3⟩
    · rw [(G i).1 hi] at hq
      exact ⟨q, hq, rfl⟩
  refine ⟨fun i q hq => ?_, fun i j p q hp hq he => ?_, fun i q hq => ?_⟩
  · by_cases hi : i ∈ isC
    · obtain ⟨j, hj⟩ := List.getElem?_of_mem hi
      rw [(G i).2 j hj] at hq
      exact hP1 j q hq
    · rw [(G i).1 hi] at hq
      refine (hP i q hq).kept (hk q.1 (hP i q hq).lt ?_)
      rintro (⟨j, e, he⟩ | hge)
      · obtain ⟨i', h1, h2⟩ := c_in isC hC he
        have : i' = i := hD.1 i' i _ _ h2 hq rfl
        subst this
        exact hi (List.mem_of_getElem? h1)
      · exact absurd (hP i q hq).lt (Nat.not_lt.mpr hge)
  · obtain ⟨p', h1, h2⟩ := addr i p hp
    obtain ⟨q', h3, h4⟩ := addr j q hq
    exact hD.1 i j p' q' h1 h3 (by rw [h2, h4]; exact he)
  · obtain ⟨q', h3, h4⟩ := addr i q hq
    rw [← h4]
    exact hD.2 i q' h3
theorem c_free (C0 : CX p s m args c own cc nL D ty A) (hD : va_D A ws) (hS : va_S A s.heap H locs) (isC : List Nat) (hC : isC.map (fun i => ws[i]?) = wc.map some) : ∀ q, va_A wc H.size q → A q := va_free (wc := wc) hD hS C0.2.2.2.2.2.2.2 isC hC
theorem c_cwV (C0 : CX p s m args c own cc nL D ty A) (hY : YV y b n rt k) (hl : Cond.methodLink own index y ∈ WL) (hR : rm.frames + 1 ≤ R.frames ∧ 8 + (n + 11) + rm.locals ≤ R.locals) (hrc : rm.cells = mc) (hrs : rm.slots = ms) : CallW R s args own y.cls index y b n rt (.code y b n rt :: WL) rm mc ms k := by
  obtain ⟨-, -, -, -, hts, -⟩ := C0
  obtain ⟨h1, h2, h3, h4, h5⟩ := hY
  exact ⟨callB_of k hts (WL_good h1) rfl hrc hrs (hts _ h2) (hts _ hl) h5 hR, hts _ h3, hts _ h4⟩
theorem c_cwS (C0 : CX p s m args c own cc nL D ty A) (hY : YS y b n rt k) (hl : Cond.methodLink own index y ∈ WL) (hR : rm.frames + 1 ≤ R.frames ∧ 8 + (n + 11) + rm.locals ≤ R.locals) (hrc : rm.cells = mc) (hrs : rm.slots = ms) : CallB R s args own index y b n rt (.code y b n rt :: WL) rm mc ms k ∧ (Cond.static y).before args s = true := by
  obtain ⟨-, -, -, -, hts, -⟩ := C0
  obtain ⟨h1, h2, h3, h5⟩ := hY
  exact ⟨callB_of k hts (WL_good h1) rfl hrc hrs (hts _ h2) (hts _ hl) h5 hR, hts _ h3⟩
theorem c_cwN (C0 : CX p s m args c own cc nL D ty A) (hY : YS y b n rt k) (hl : (own, index, y, host) ∈ NM) (hR : rm.frames + 1 ≤ R.frames ∧ 8 + (n + 11) + rm.locals ≤ R.locals) (hrc : rm.cells = mc) (hrs : rm.slots = ms) : va_CN R s args own index y host b n rt (.code y b n rt :: WL) rm mc ms k ∧ (Cond.static y).before args s = true ∧ True := by
  obtain ⟨-, -, -, -, hts, -, hE, -⟩ := C0
  obtain ⟨h1, h2, h3, h5⟩ := hY
  exact ⟨va_cnB k hts (WL_good h1) rfl hrc hrs (hE.2.1 _ hl) (hts _ h2) h5 hR, hts _ h3, trivial⟩
theorem c_fix (C0 : CX p s m args c own cc nL D ty A) : CallFix p m c cc nL s args WL own := ⟨C0.1, C0.2.1, C0.2.2.1, C0.2.2.2.1, C0.2.2.2.2.1⟩
theorem cVi (C0 : CX p s m args c own cc nL D ty A) (hP : va_P D vwCl ws H) (hD : va_D A ws) (hS : va_S A s.heap H locs) (hls : ls.size = nL) (isC : List Nat) (hM : MI l y b n rt rm D ty (.ref a :: As) wc H.size r w1) (hY : YV y b n rt k) (hl : Cond.methodLink own index y ∈ WL) (hc : vwCl[ci]? = some (y.cls, T, N)) (hr0 : wc[0]? = some (a, .inr (ci, fs))) (hC : isC.map (fun i => ws[i]?) = wc.map some) (hn : va_nd isC = true) (hw : w1.map (fun q => q.1) = wc.map (fun q => q.1))
    (hRm : rm.frames + 1 ≤ R.frames ∧ 8 + (n + 11) + rm.locals ≤ R.locals) (hrc : rm.cells = 0 ∧ rm.slots = 0) (hlen : As.length = k) (hst : (rest.map fun v => v.category).sum ≤ 8) (hdg : decode cc pc = .ok (.invokevirtual index, 3)) (hcs : cells ≤ R.cells ∧ slots ≤ R.slots)
    (kk : ∀ (H1 : Heap) (locs1 : List Loc), va_P D vwCl (rp ws isC w1) H1 → va_D A (rp ws isC w1) → va_S A s.heap H1 locs1 → W p l e R s m args below meth c H1 locs1 cells slots Q (F0 m (pc + 3) ls (.int r :: rest))) : W p l e R s m args below meth c H locs cells slots Q (F0 m pc ls (As.reverse ++ .ref a :: rest)) := by
  have hFc := c_free C0 hD hS isC hC
  have hPc : va_P D vwCl wc H := by
    have h := c_at (av := []) C0 hP hD hS isC hC hn
    exact fun j q hq => by
      have h1 : (isC.map (fun i => ws[i]?))[j]? = some (some q) := by rw [hC, List.getElem?_map, hq]; rfl
      rw [List.getElem?_map] at h1
      cases hi : isC[j]? with
      | none => rw [hi] at h1; cases h1
      | some i =>
        rw [hi] at h1
        exact hP i q (Option.some.inj h1)
  have hp : PreV s H y.cls a (cPc D ty (.ref a :: As) wc H.size) As := ⟨cPc_blind, va_recv C0.2.2.2.2.2.1 hPc (ci := ci) (q0 := 0) hc hr0, c_at C0 hP hD hS isC hC hn⟩
  refine va_calli (va_runV (C := y.cls) (b := a) (As := As) (rest := rest) (c_fix C0) hM (c_cwV C0 hY hl hRm hrc.1 hrc.2) hp rfl hlen hls rfl (lv_room hst) hdg ⟨by rw [Nat.add_zero]; exact hcs.1, by rw [Nat.add_zero]; exact hcs.2⟩) hS (fun q _ h => hFc q h) hFc (fun r1 u t H1 locs1 ht hvm hr1 hb hz1 hk1 hS1 => ?_)
  obtain ⟨hP2, hD2⟩ := c_kk C0 hP hD hS isC hC hn hw ht hb hk1
  subst hr1
  exact kk H1 locs1 hP2 hD2 hS1
theorem cVv (C0 : CX p s m args c own cc nL D ty A) (hP : va_P D vwCl ws H) (hD : va_D A ws) (hS : va_S A s.heap H locs) (hls : ls.size = nL) (isC : List Nat) (hM : MV l y b n rt rm D ty (.ref a :: As) wc H.size w1) (hY : YV y b n rt k) (hl : Cond.methodLink own index y ∈ WL) (hc : vwCl[ci]? = some (y.cls, T, N)) (hr0 : wc[0]? = some (a, .inr (ci, fs))) (hC : isC.map (fun i => ws[i]?) = wc.map some) (hn : va_nd isC = true) (hw : w1.map (fun q => q.1) = wc.map (fun q => q.1))
    (hRm : rm.frames + 1 ≤ R.frames ∧ 8 + (n + 11) + rm.locals ≤ R.locals) (hrc : rm.cells = 0 ∧ rm.slots = 0) (hlen : As.length = k) (hst : (rest.map fun v => v.category).sum ≤ 8) (hdg : decode cc pc = .ok (.invokevirtual index, 3)) (hcs : cells ≤ R.cells ∧ slots ≤ R.slots)
    (kk : ∀ (H1 : Heap) (locs1 : List Loc), va_P D vwCl (rp ws isC w1) H1 → va_D A (rp ws isC w1) → va_S A s.heap H1 locs1 → W p l e R s m args below meth c H1 locs1 cells slots Q (F0 m (pc + 3) ls (rest))) : W p l e R s m args below meth c H locs cells slots Q (F0 m pc ls (As.reverse ++ .ref a :: rest)) := by
  have hFc := c_free C0 hD hS isC hC
  have hPc : va_P D vwCl wc H := by
    have h := c_at (av := []) C0 hP hD hS isC hC hn
    exact fun j q hq => by
      have h1 : (isC.map (fun i => ws[i]?))[j]? = some (some q) := by rw [hC, List.getElem?_map, hq]; rfl
      rw [List.getElem?_map] at h1
      cases hi : isC[j]? with
      | none => rw [hi] at h1; cases h1
      | some i =>
        rw [hi] at h1
        exact hP i q (Option.some.inj h1)
  have hp : PreV s H y.cls a (cPc D ty (.ref a :: As) wc H.size) As := ⟨cPc_blind, va_recv C0.2.2.2.2.2.1 hPc (ci := ci) (q0 := 0) hc hr0, c_at C0 hP hD hS isC hC hn⟩
  refine va_callv (va_runV (C := y.cls) (b := a) (As := As) (rest := rest) (c_fix C0) hM (c_cwV C0 hY hl hRm hrc.1 hrc.2) hp rfl hlen hls rfl (lv_room hst) hdg ⟨by rw [Nat.add_zero]; exact hcs.1, by rw [Nat.add_zero]; exact hcs.2⟩) hS (fun q _ h => hFc q h) hFc (fun u t H1 locs1 ht hvm hr1 hb hz1 hk1 hS1 => ?_)
  obtain ⟨hP2, hD2⟩ := c_kk C0 hP hD hS isC hC hn hw ht hb hk1
  exact kk H1 locs1 hP2 hD2 hS1
theorem cSi (C0 : CX p s m args c own cc nL D ty A) (hP : va_P D vwCl ws H) (hD : va_D A ws) (hS : va_S A s.heap H locs) (hls : ls.size = nL) (isC : List Nat) (hM : MI l y b n rt rm D ty As wc H.size r w1) (hY : YS y b n rt k) (hl : Cond.methodLink own index y ∈ WL) (hC : isC.map (fun i => ws[i]?) = wc.map some) (hn : va_nd isC = true) (hw : w1.map (fun q => q.1) = wc.map (fun q => q.1))
    (hRm : rm.frames + 1 ≤ R.frames ∧ 8 + (n + 11) + rm.locals ≤ R.locals) (hrc : rm.cells = 0 ∧ rm.slots = 0) (hlen : As.length = k) (hst : (rest.map fun v => v.category).sum ≤ 8) (hdg : decode cc pc = .ok (.invokestatic index, 3)) (hcs : cells ≤ R.cells ∧ slots ≤ R.slots)
    (kk : ∀ (H1 : Heap) (locs1 : List Loc), va_P D vwCl (rp ws isC w1) H1 → va_D A (rp ws isC w1) → va_S A s.heap H1 locs1 → W p l e R s m args below meth c H1 locs1 cells slots Q (F0 m (pc + 3) ls (.int r :: rest))) : W p l e R s m args below meth c H locs cells slots Q (F0 m pc ls (As.reverse ++ rest)) := by
  have hFc := c_free C0 hD hS isC hC
  have hp : PreS s H (cPc D ty As wc H.size) As := ⟨cPc_blind, c_at C0 hP hD hS isC hC hn⟩
  refine va_calli (va_runS (As := As) (rest := rest) (c_fix C0) hM (c_cwS C0 hY hl hRm hrc.1 hrc.2) hp rfl hlen hls rfl (lv_room hst) hdg ⟨by rw [Nat.add_zero]; exact hcs.1, by rw [Nat.add_zero]; exact hcs.2⟩) hS (fun q _ h => hFc q h) hFc (fun r1 u t H1 locs1 ht hvm hr1 hb hz1 hk1 hS1 => ?_)
  obtain ⟨hP2, hD2⟩ := c_kk C0 hP hD hS isC hC hn hw ht hb hk1
  subst hr1
  exact kk H1 locs1 hP2 hD2 hS1
theorem cSv (C0 : CX p s m args c own cc nL D ty A) (hP : va_P D vwCl ws H) (hD : va_D A ws) (hS : va_S A s.heap H locs) (hls : ls.size = nL) (isC : List Nat) (hM : MV l y b n rt rm D ty As wc H.size w1) (hY : YS y b n rt k) (hl : Cond.methodLink own index y ∈ WL) (hC : isC.map (fun i => ws[i]?) = wc.map some) (hn : va_nd isC = true) (hw : w1.map (fun q => q.1) = wc.map (fun q => q.1))
    (hRm : rm.frames + 1 ≤ R.frames ∧ 8 + (n + 11) + rm.locals ≤ R.locals) (hrc : rm.cells = 0 ∧ rm.slots = 0) (hlen : As.length = k) (hst : (rest.map fun v => v.category).sum ≤ 8) (hdg : decode cc pc = .ok (.invokestatic index, 3)) (hcs : cells ≤ R.cells ∧ slots ≤ R.slots)
    (kk : ∀ (H1 : Heap) (locs1 : List Loc), va_P D vwCl (rp ws isC w1) H1 → va_D A (rp ws isC w1) → va_S A s.heap H1 locs1 → W p l e R s m args below meth c H1 locs1 cells slots Q (F0 m (pc + 3) ls (rest))) : W p l e R s m args below meth c H locs cells slots Q (F0 m pc ls (As.reverse ++ rest)) := by
  have hFc := c_free C0 hD hS isC hC
  have hp : PreS s H (cPc D ty As wc H.size) As := ⟨cPc_blind, c_at C0 hP hD hS isC hC hn⟩
  refine va_callv (va_runS (As := As) (rest := rest) (c_fix C0) hM (c_cwS C0 hY hl hRm hrc.1 hrc.2) hp rfl hlen hls rfl (lv_room hst) hdg ⟨by rw [Nat.add_zero]; exact hcs.1, by rw [Nat.add_zero]; exact hcs.2⟩) hS (fun q _ h => hFc q h) hFc (fun u t H1 locs1 ht hvm hr1 hb hz1 hk1 hS1 => ?_)
  obtain ⟨hP2, hD2⟩ := c_kk C0 hP hD hS isC hC hn hw ht hb hk1
  exact kk H1 locs1 hP2 hD2 hS1
theorem cNi (C0 : CX p s m args c own cc nL D ty A) (hP : va_P D vwCl ws H) (hD : va_D A ws) (hS : va_S A s.heap H locs) (hls : ls.size = nL) (isC : List Nat) (hM : MI l y b n rt rm D ty As wc H.size r w1) (hY : YS y b n rt k) (hl : (own, index, y, host) ∈ NM) (hC : isC.map (fun i => ws[i]?) = wc.map some) (hn : va_nd isC = true) (hw : w1.map (fun q => q.1) = wc.map (fun q => q.1))
    (hRm : rm.frames + 1 ≤ R.frames ∧ 8 + (n + 11) + rm.locals ≤ R.locals) (hrc : rm.cells = 0 ∧ rm.slots = 0) (hlen : As.length = k) (hst : (rest.map fun v => v.category).sum ≤ 8) (hdg : decode cc pc = .ok (.invokestatic index, 3)) (hcs : cells ≤ R.cells ∧ slots ≤ R.slots)
    (kk : ∀ (H1 : Heap) (locs1 : List Loc), va_P D vwCl (rp ws isC w1) H1 → va_D A (rp ws isC w1) → va_S A s.heap H1 locs1 → W p l e R s m args below meth c H1 locs1 cells slots Q (F0 m (pc + 3) ls (.int r :: rest))) : W p l e R s m args below meth c H locs cells slots Q (F0 m pc ls (As.reverse ++ rest)) := by
  have hFc := c_free C0 hD hS isC hC
  have hp : PreS s H (cPc D ty As wc H.size) As := ⟨cPc_blind, c_at C0 hP hD hS isC hC hn⟩
  refine va_calli (va_runSN (As := As) (rest := rest) (c_fix C0) hM (c_cwN C0 hY hl hRm hrc.1 hrc.2) hp rfl hlen hls rfl (lv_room hst) hdg ⟨by rw [Nat.add_zero]; exact hcs.1, by rw [Nat.add_zero]; exact hcs.2⟩) hS (fun q _ h => hFc q h) hFc (fun r1 u t H1 locs1 ht hvm hr1 hb hz1 hk1 hS1 => ?_)
  obtain ⟨hP2, hD2⟩ := c_kk C0 hP hD hS isC hC hn hw ht hb hk1
  subst hr1
  exact kk H1 locs1 hP2 hD2 hS1
theorem cNv (C0 : CX p s m args c own cc nL D ty A) (hP : va_P D vwCl ws H) (hD : va_D A ws) (hS : va_S A s.heap H locs) (hls : ls.size = nL) (isC : List Nat) (hM : MV l y b n rt rm D ty As wc H.size w1) (hY : YS y b n rt k) (hl : (own, index, y, host) ∈ NM) (hC : isC.map (fun i => ws[i]?) = wc.map some) (hn : va_nd isC = true) (hw : w1.map (fun q => q.1) = wc.map (fun q => q.1))
    (hRm : rm.frames + 1 ≤ R.frames ∧ 8 + (n + 11) + rm.locals ≤ R.locals) (hrc : rm.cells = 0 ∧ rm.slots = 0) (hlen : As.length = k) (hst : (rest.map fun v => v.category).sum ≤ 8) (hdg : decode cc pc = .ok (.invokestatic index, 3)) (hcs : cells ≤ R.cells ∧ slots ≤ R.slots)
    (kk : ∀ (H1 : Heap) (locs1 : List Loc), va_P D vwCl (rp ws isC w1) H1 → va_D A (rp ws isC w1) → va_S A s.heap H1 locs1 → W p l e R s m args below meth c H1 locs1 cells slots Q (F0 m (pc + 3) ls (rest))) : W p l e R s m args below meth c H locs cells slots Q (F0 m pc ls (As.reverse ++ rest)) := by
  have hFc := c_free C0 hD hS isC hC
  have hp : PreS s H (cPc D ty As wc H.size) As := ⟨cPc_blind, c_at C0 hP hD hS isC hC hn⟩
  refine va_callv (va_runSN (As := As) (rest := rest) (c_fix C0) hM (c_cwN C0 hY hl hRm hrc.1 hrc.2) hp rfl hlen hls rfl (lv_room hst) hdg ⟨by rw [Nat.add_zero]; exact hcs.1, by rw [Nat.add_zero]; exact hcs.2⟩) hS (fun q _ h => hFc q h) hFc (fun u t H1 locs1 ht hvm hr1 hb hz1 hk1 hS1 => ?_)
  obtain ⟨hP2, hD2⟩ := c_kk C0 hP hD hS isC hC hn hw ht hb hk1
  exact kk H1 locs1 hP2 hD2 hS1
end CALLS
end
section
section THROWS
variable {p : Program} {l : Launch} {e : Env} {R : Room} {s : State} {m : MethodId} {args : Array Value} {below : List Frame} {meth : Method} {c : Code} {H : Heap} {locs : List Loc} {cells slots : Nat} {Q : State → Prop}
variable {own : String} {cc b : ByteArray} {nL n k index pc ci : Nat} {rt : Option FieldType} {rm : Room} {D : va_G} {ty : List (ClassId × FieldType)} {A : Nat → Prop} {y : MethodName} {As rest st0 : List Value} {ls : Array Slot} {a : Nat} {fs : List Value} {ws wc wr w1 ws' : va_W} {r : Int32} {E host : String} {T : u_T} {N : Nat} {Qc : Array Value → State → Outcome → State → Prop} {XC : String → State → State → Prop} {free : Addr → Prop} {mc ms : Nat} {w0 : va_W} {Pc : Array Value → State → Prop} {wl : List Cond}
theorem x_runSN (S : CallFix p m c cc nL s args WL own) (hM : vx_Met l y wl rm Pc Qc XC mc ms free) (cw : va_CN R s args own index y host b n rt wl rm mc ms k ∧ (Cond.static y).before args s = true ∧ True) (hp : PreS s H Pc As)
    (hn : As.length = k) (hsize : ls.size = nL) (hW : (rest.map fun v => v.category).sum ≤ 8) (hdg : decode cc pc = .ok (.invokestatic index, 3)) (hf : cells + mc ≤ R.cells ∧ slots + ms ≤ R.slots) :
    vx_Run p l e R s m args below meth c H locs cells slots mc ms (F0 m pc ls (As.reverse ++ rest)) rest (Qc As.toArray) XC free := by
  obtain ⟨⟨⟨hrc, hrs, hfr, hlo, hws, hcw⟩, hcode, hini, hy, hlen, hl⟩, hstt, -⟩ := cw
  have hK : vx_Back l R p e below s args y 3 8 (PreOf R mc ms Pc) (PostOf Qc mc ms free) (vx_Post XC mc ms free) := vx_back (bytes := b) (maxL := n) (ret := rt) hM hp.1 hrc hrs hfr hlo hws hcw (fun a' U hW => word_at hW (Or.inl (by first | rfl | simp [Cond.onTables, Cond.keeps, Cond.steady])) hini)
  obtain ⟨hx, hb, hml, ho, -⟩ := S
  intro T hT X
  obtain ⟨mk, hnamed⟩ := Cond.code_named hcode
  obtain ⟨methM, cM, hmethM, -, -, -, -, -, -, hsigM⟩ := Cond.code_spec hnamed hcode
  have hstatic : methM.isStatic = true := Cond.static_spec hnamed hmethM hstt
  obtain ⟨kP, hkP, -⟩ := className_of_methodNamed hnamed
  have hinitP : kP.init = .initialized := Cond.initialized_spec (findClass_of_methodNamed hnamed) hkP hini
  have hdg' : decode c.code pc = .ok (.invokestatic index, 3) := by rw [hb]; exact hdg
  obtain ⟨vm₁, X₁, hstep₁⟩ := X.invokestaticNest hx ho hl hnamed hmethM hstatic hkP hinitP hy (g := F0 m pc ls (As.reverse ++ rest)) rfl (argsL := As) (rest := rest) (hn.trans (hlen _ hsigM)) rfl hdg'
  rcases hK m meth c ⟨T.setVm vm₁, locs, cells, slots⟩ { F0 m pc ls (As.reverse ++ rest) with stack := rest } (.invokestatic index) mk As.toArray X₁ rfl (hsize.trans hml.symm) hdg' (lv_room (m := m) (pc := pc) (ls := ls) hW) (X₁.named hnamed) ⟨hf.1, hf.2, hp.2 (T.setVm vm₁) hT X₁.warmed⟩ with ⟨v, B, X', hpost, hsteps⟩ | ⟨q, B, X', hpost, hsteps⟩
  · obtain ⟨U', l2, c2, s2⟩ := B
    obtain ⟨g', mk', t, L, e1, e2, hq, h1, hL, h2, h3⟩ := hpost
    dsimp only [Pt.U, Pt.locs, Pt.cells, Pt.slots] at X' e1 e2 h1 h2 h3 hsteps
    subst h1; subst h2; subst h3
    exact Or.inl ⟨v, (T.setVm vm₁).calling g' mk' As.toArray, t, U', L, hT, X', hL, e1, e2, hq, fun target h => hstep₁ _ fun acts => by rw [doInvoke_state]; exact hsteps.trans h⟩
  · obtain ⟨U', l2, c2, s2⟩ := B
    obtain ⟨g', mk', t, L, E, ce, e1, e2, hq, hce, hcv, hcl, h1, hL, h2, h3⟩ := hpost
    dsimp only [Pt.U, Pt.locs, Pt.cells, Pt.slots] at X' e1 e2 h1 h2 h3 hsteps hcl
    subst h1; subst h2; subst h3
    exact Or.inr ⟨q, (T.setVm vm₁).calling g' mk' As.toArray, t, U', L, E, ce, hT, X', hL, e1, e2, hq, hce, hcv, vx_cls X₁.warmed hcl, hstep₁ _ fun acts => by rw [doInvoke_state]; exact hsteps⟩
/-- a call that throws -/
theorem x_row {SX : Type} {px : SX → Prop} {BX : String → SX → State → Prop} {A0 AX : Nat → Prop} {H0 : Heap} (hr : vx_Run p l e R s m args below meth c H locs cells slots mc ms (F0 m pc ls st0) rest (fun _ _ _ => False) (vx_X px BX AX) free) (hS : va_S A0 H0 H locs) (hf : ∀ q, free q → A0 q) (hAX : ∀ q, q < H.size → AX q → A0 q)
    (kx : ∀ (E : String) (ce : Cell) (q9 : Addr) (u : SX) (t : State) (H1 : Heap) (locs1 : List Loc), t.heap = H1 → s.vm.Alike t.vm → px u → BX E u t → H.size ≤ H1.size → (∀ q : Nat, q < H.size → ¬ AX q → H1[q]? = H[q]?) → va_S A0 H0 H1 locs1 → H1[q9]? = some ce → ce.vm = .none → s.vm.findClass E = some ce.cls → vx_W p l e R s m args below meth c H1 locs1 (cells + mc) (slots + ms) Q (F0 m pc ls rest) q9) : W p l e R s m args below meth c H locs cells slots Q (F0 m pc ls st0) := by
  intro T hT X
  rcases hr T hT X with ⟨v, st₀, t, T', L, h0, X', hL, e1, e2, hF, st⟩ | ⟨q, st₀, t, T', L, E, ce, h0, X', hL, e1, e2, ⟨u, hp, hb, hF⟩, hce, hcv, hcl, st⟩
  · exact hF.elim
  · obtain ⟨k1, k2, k3⟩ := vx_keep h0 e1 hS hAX hf hL hF
    obtain ⟨t2, a1, b1⟩ := kx E ce q u t T'.heap (locs ++ L) e1.symm (by rw [← e2]; exact X'.warmed.alike) hp hb k1 k2 k3 (by rw [e1]; exact hce) hcv hcl T' rfl X'
    exact ⟨t2, st.trans a1, b1⟩
/-- the end of a method that throws what its callee threw -/
theorem x_out (C0 : CX p s m args c own cc nL D ty A) (hAe : A = va_A w0 s.heap.size) (hno : ∀ x ∈ c.exceptionTable.toList, False) (hlocks : meth.locks = false) (hP : va_P D vwCl w0 H) (hD : va_D A w0) (hS : va_S A s.heap H locs)
    (isC : List Nat) (hC : isC.map (fun i => w0[i]?) = wc.map some) (hn : va_nd isC = true) (hB : rp w0 isC wc = w0)
    (hr : vx_Run p l e R s m args below meth c H locs cells slots 1 6 (F0 m pc ls st0) rest (fun _ _ _ => False) (XE D ty wc H.size E) (va_A wc H.size)) (hcs : cells = 0 ∧ slots = 0) :
    W p l e R s m args below meth c H locs cells slots (vx_MQ below (fun _ _ _ _ => False) (XE D ty w0 s.heap.size E) args s 1 6 (va_A w0 s.heap.size)) (F0 m pc ls st0) := by
  have hFc := c_free C0 hD hS isC hC
  obtain ⟨rfl, rfl⟩ := hcs
  refine x_row hr hS hFc (fun q _ h => hFc q h) (fun E' ce q9 u t H1 locs1 ht hvm hpx hb hz hk hS1 hce hcv hcl => ?_)
  obtain ⟨rfl, hb⟩ := hb
  obtain ⟨hP2, hD2⟩ := c_kk C0 hP hD hS isC hC hn rfl ht hb hk
  rw [hB] at hP2 hD2
  refine vx_out (fun x hx => (hno x hx).elim) hlocks hce hcv hcl (fun t' ht' ha => ⟨(), trivial, ⟨rfl, by rw [ht']; exact hP2, va_K.moved ha C0.2.2.2.2.2.1, hAe ▸ hD2⟩, ?_⟩) (fun z hz => hAe ▸ hS1.2.2 z hz) (by omega) (by omega)
  have h9 := hS1.F (s := s) (t := t') ht'
  rw [hAe] at h9
  exact h9
theorem rV (C0 : CX p s m args c own cc nL D ty A) (hP : va_P D vwCl ws H) (hD : va_D A ws) (hS : va_S A s.heap H locs) (hls : ls.size = nL) (isC : List Nat) (hM : MT l y b n rt rm D ty (.ref a :: As) wc H.size E) (hY : YV y b n rt k) (hl : Cond.methodLink own index y ∈ WL) (hc : vwCl[ci]? = some (y.cls, T, N)) (hr0 : wc[0]? = some (a, .inr (ci, fs))) (hC : isC.map (fun i => ws[i]?) = wc.map some) (hn : va_nd isC = true)
    (hRm : rm.frames + 1 ≤ R.frames ∧ 8 + (n + 11) + rm.locals ≤ R.locals) (hrc : rm.cells = 1 ∧ rm.slots = 6) (hlen : As.length = k) (hst : (rest.map fun v => v.category).sum ≤ 8) (hdg : decode cc pc = .ok (.invokevirtual index, 3)) (hcs : cells + 1 ≤ R.cells ∧ slots + 6 ≤ R.slots) :
    vx_Run p l e R s m args below meth c H locs cells slots 1 6 (F0 m pc ls (As.reverse ++ .ref a :: rest)) rest (fun _ _ _ => False) (XE D ty wc H.size E) (va_A wc H.size) := by
  have hPc : va_P D vwCl wc H := fun j q hq => by
    have h1 : (isC.map (fun i => ws[i]?))[j]? = some (some q) := by rw [hC, List.getElem?_map, hq]; rfl
    rw [List.getElem?_map] at h1
    cases hi : isC[j]? with
    | none => rw [hi] at h1; cases h1
    | some i =>
      rw [hi] at h1
      exact hP i q (Option.some.inj h1)
  have hp : PreV s H y.cls a (cPc D ty (.ref a :: As) wc H.size) As := ⟨cPc_blind, va_recv C0.2.2.2.2.2.1 hPc (ci := ci) (q0 := 0) hc hr0, c_at C0 hP hD hS isC hC hn⟩
  exact vx_runV (C := y.cls) (b := a) (As := As) (rest := rest) (c_fix C0) hM (c_cwV C0 hY hl hRm hrc.1 hrc.2) hp rfl hlen hls rfl (lv_room hst) hdg hcs
theorem rS (C0 : CX p s m args c own cc nL D ty A) (hP : va_P D vwCl ws H) (hD : va_D A ws) (hS : va_S A s.heap H locs) (hls : ls.size = nL) (isC : List Nat) (hM : MT l y b n rt rm D ty As wc H.size E) (hY : YS y b n rt k) (hl : Cond.methodLink own index y ∈ WL) (hC : isC.map (fun i => ws[i]?) = wc.map some) (hn : va_nd isC = true)
    (hRm : rm.frames + 1 ≤ R.frames ∧ 8 + (n + 11) + rm.locals ≤ R.locals) (hrc : rm.cells = 1 ∧ rm.slots = 6) (hlen : As.length = k) (hst : (rest.map fun v => v.category).sum ≤ 8) (hdg : decode cc pc = .ok (.invokestatic index, 3)) (hcs : cells + 1 ≤ R.cells ∧ slots + 6 ≤ R.slots) :
    vx_Run p l e R s m args below meth c H locs cells slots 1 6 (F0 m pc ls (As.reverse ++ rest)) rest (fun _ _ _ => False) (XE D ty wc H.size E) (va_A wc H.size) := by
  have hp : PreS s H (cPc D ty As wc H.size) As := ⟨cPc_blind, c_at C0 hP hD hS isC hC hn⟩
  exact vx_runS (As := As) (rest := rest) (c_fix C0) hM (c_cwS C0 hY hl hRm hrc.1 hrc.2) hp rfl hlen hls rfl (lv_room hst) hdg hcs
theorem rN (C0 : CX p s m args c own cc nL D ty A) (hP : va_P D vwCl ws H) (hD : va_D A ws) (hS : va_S A s.heap H locs) (hls : ls.size = nL) (isC : List Nat) (hM : MT l y b n rt rm D ty As wc H.size E) (hY : YS y b n rt k) (hl : (own, index, y, host) ∈ NM) (hC : isC.map (fun i => ws[i]?) = wc.map some) (hn : va_nd isC = true)
    (hRm : rm.frames + 1 ≤ R.frames ∧ 8 + (n + 11) + rm.locals ≤ R.locals) (hrc : rm.cells = 1 ∧ rm.slots = 6) (hlen : As.length = k) (hst : (rest.map fun v => v.category).sum ≤ 8) (hdg : decode cc pc = .ok (.invokestatic index, 3)) (hcs : cells + 1 ≤ R.cells ∧ slots + 6 ≤ R.slots) :
    vx_Run p l e R s m args below meth c H locs cells slots 1 6 (F0 m pc ls (As.reverse ++ rest)) rest (fun _ _ _ => False) (XE D ty wc H.size E) (va_A wc H.size) := by
  have hp : PreS s H (cPc D ty As wc H.size) As := ⟨cPc_blind, c_at C0 hP hD hS isC hC hn⟩
  exact x_runSN (As := As) (rest := rest) (c_fix C0) hM (c_cwN C0 hY hl hRm hrc.1 hrc.2) hp hlen hls hst hdg hcs
def xNm : List String := ["java/lang/RuntimeException", "java/lang/Exception"]
def xBad (E : String) : List Cond := [.castable E E, .declares ⟨"java/lang/RuntimeException", "<init>", "(Ljava/lang/String;)V"⟩, .declares ⟨"java/lang/Exception", "<init>", "(Ljava/lang/String;)V"⟩, .declares ⟨"java/lang/Throwable", "<init>", "(Ljava/lang/String;)V"⟩]
/-- what a 'throw new' of this method knows -/
def YT (own : String) (ik is ic : Nat) (E text : String) : Prop := Cond.classLink own ik E ∈ WL ∧ Cond.initialized E ∈ WL ∧ (own, is, text) ∈ SW ∧ E ∈ NCa ∧ (∀ w ∈ (vx_atS own ic E xNm).filter goodWord, w ∈ WL) ∧ (∀ w ∈ (vx_atS own ic E xNm).filter (fun w => !goodWord w), w ∈ xBad E) ∧ Bundle.fit E = true ∧ (∀ n ∈ xNm, Bundle.fit n = true) ∧ (∀ w ∈ Cond.classLink own ik E :: Cond.initialized E :: vx_atS own ic E xNm, vx_ot w = true)
theorem x_new {ik is ic : Nat} {text : String} (C0 : CX p s m args c own cc nL D ty A) (hAe : A = va_A w0 s.heap.size) (hltr : l.stackTraces = false) (hno : ∀ x ∈ c.exceptionTable.toList, False) (hlocks : meth.locks = false) (hP : va_P D vwCl w0 H) (hD : va_D A w0) (hS : va_S A s.heap H locs) (hls : ls.size = nL) (hY : YT own ik is ic E text)
    (d0 : decode cc pc = .ok (.new ik, 3)) (d3 : decode cc (pc + 3) = .ok (.dup, 1)) (d4 : decode cc (pc + 4) = .ok (.ldc is, 2)) (d6 : decode cc (pc + 6) = .ok (.invokespecial ic, 3)) (d9 : decode cc (pc + 9) = .ok (.athrow, 1))
    (hRm : 5 < R.frames ∧ (rest.map fun v => v.category).sum + 82 ≤ R.locals ∧ 1 ≤ R.cells ∧ 6 ≤ R.slots) :
    W p l e R s m args below meth c H locs 0 0 (vx_MQ below (fun _ _ _ _ => False) (XE D ty w0 s.heap.size E) args s 1 6 (va_A w0 s.heap.size)) (F0 m pc ls rest) := by
  obtain ⟨h1, h2, h3, h4, h5, h6, h7, h8, h9⟩ := hY
  obtain ⟨hx, hb, hml, hown, hts, hK, hE, hA⟩ := C0
  obtain ⟨sa, hsa⟩ := hE.2.2.2.2.2.1 _ h3
  have hbad : ∀ w ∈ xBad E, w.before args s = true := vx_c (va_Nw.use rfl (hE.2.2.1 _ h4)) (vx_c (va_Nw.use rfl (hE.2.2.2.1 _ (by simp [NDe]))) (vx_c (va_Nw.use rfl (hE.2.2.2.1 _ (by simp [NDe]))) (vx_c (va_Nw.use rfl (hE.2.2.2.1 _ (by simp [NDe]))) vx_n)))
  refine vx_throwS hx hb hltr (names := xNm) (A := A) hown h7 h8 (hts _ h1) (hts _ h2) hsa (vx_hat (fun w hw => hts w (h5 w hw)) h6 hbad) h9 hE.2.2.2.2.2.2.1 hE.2.2.2.2.2.2.2.1 hS (hls.trans hml.symm) d0 d3 d4 d6 d9 (fun x hx => (hno x hx).elim) hRm.1 hRm.2.1 (by omega) (by omega) hlocks ?_ (fun z hz => hAe ▸ hS.2.2 z hz) (by omega) (by omega)
  intro t ha hz hk
  have hq : ∀ q : Nat, q < H.size → t.heap[q]? = H[q]? := hk
  refine ⟨(), trivial, ⟨rfl, hP.kept (fun j q hj => hq _ (hP j q hj).lt), va_K.moved ha hK, hAe ▸ hD⟩, ?_⟩
  refine ⟨Nat.le_trans hS.1 hz, fun q h1 h2 => ?_⟩
  rw [hq q (Nat.lt_of_lt_of_le h1 hS.1)]
  exact hS.2.1 q h1 (by rw [hAe]; exact h2)
end THROWS
end
section
def isb (v : Int32) : Bool := decide (v = 0 ∨ v = 1)
theorem isb_n {v : Int32} (h : isb v = true) : narrow .boolean (.int v) = .int v := by
  rcases of_decide_eq_true h with rfl | rfl <;> rfl
def upc (g : St) (k : Nat) (f : Nat → Int32) : St := fun k' => if k' = k then f else g k'

def xv0 { O : Type} (o : Option (Unit)) (k : Option O) : Option O := match o with
  | none => none
  | some () => k 
theorem xv0_i { O : Type} {o : Option (Unit)} {k : Option O} {z : O} (h : xv0 o k = some z) : o = some () ∧ k  = some z := by
  match o, h with
  | some (), h => exact ⟨rfl, h⟩
theorem xv0_s { O : Type} {k : Option O}  : xv0 (some ()) k = k  := rfl
def xc0 { B : Type} (o : Option ((Unit) ⊕ String)) (k : Option (B ⊕ String)) : Option (B ⊕ String) := match o with
  | none => none
  | some (.inl ()) => k 
  | some (.inr E) => some (.inr E)
theorem xc0_i { B : Type} {o : Option ((Unit) ⊕ String)} {k : Option (B ⊕ String)} {z : B ⊕ String} (h : xc0 o k = some z) : (o = some (.inl ()) ∧ k  = some z) ∨ (∃ E, o = some (.inr E) ∧ z = .inr E) := by
  match o, h with
  | some (.inl ()), h => exact Or.inl ⟨rfl, h⟩
  | some (.inr E), h => exact Or.inr ⟨E, rfl, (Option.some.inj h).symm⟩
theorem xc0_l { B : Type} {k : Option (B ⊕ String)}  : xc0 (some (.inl ())) k = k  := rfl
theorem xc0_r { B : Type} {k : Option (B ⊕ String)} {E : String} : xc0 (some (.inr E)) k = some (.inr E) := rfl
def xv1 {A1 O : Type} (o : Option (A1)) (k : A1 → Option O) : Option O := match o with
  | none => none
  | some a1 => k a1
theorem xv1_i {A1 O : Type} {o : Option (A1)} {k : A1 → Option O} {z : O} (h : xv1 o k = some z) : ∃ a1, o = some a1 ∧ k a1 = some z := by
  match o, h with
  | some a1, h => exact ⟨a1, rfl, h⟩
theorem xv1_s {A1 O : Type} {k : A1 → Option O} {a1 : A1} : xv1 (some a1) k = k a1 := rfl
def xc1 {A1 B : Type} (o : Option ((A1) ⊕ String)) (k : A1 → Option (B ⊕ String)) : Option (B ⊕ String) := match o with
  | none => none
  | some (.inl a1) => k a1
  | some (.inr E) => some (.inr E)
theorem xc1_i {A1 B : Type} {o : Option ((A1) ⊕ String)} {k : A1 → Option (B ⊕ String)} {z : B ⊕ String} (h : xc1 o k = some z) : (∃ a1, o = some (.inl a1) ∧ k a1 = some z) ∨ (∃ E, o = some (.inr E) ∧ z = .inr E) := by
  match o, h with
  | some (.inl a1), h => exact Or.inl ⟨a1, rfl, h⟩
  | some (.inr E), h => exact Or.inr ⟨E, rfl, (Option.some.inj h).symm⟩
theorem xc1_l {A1 B : Type} {k : A1 → Option (B ⊕ String)} {a1 : A1} : xc1 (some (.inl a1)) k = k a1 := rfl
theorem xc1_r {A1 B : Type} {k : A1 → Option (B ⊕ String)} {E : String} : xc1 (some (.inr E)) k = some (.inr E) := rfl
def xv2 {A1 A2 O : Type} (o : Option (A1 × A2)) (k : A1 → A2 → Option O) : Option O := match o with
  | none => none
  | some (a1, a2) => k a1 a2
theorem xv2_i {A1 A2 O : Type} {o : Option (A1 × A2)} {k : A1 → A2 → Option O} {z : O} (h : xv2 o k = some z) : ∃ a1 a2, o = some (a1, a2) ∧ k a1 a2 = some z := by
  match o, h with
  | some (a1, a2), h => exact ⟨a1, a2, rfl, h⟩
theorem xv2_s {A1 A2 O : Type} {k : A1 → A2 → Option O} {a1 : A1} {a2 : A2} : xv2 (some (a1, a2)) k = k a1 a2 := rfl
def xc2 {A1 A2 B : Type} (o : Option ((A1 × A2) ⊕ String)) (k : A1 → A2 → Option (B ⊕ String)) : Option (B ⊕ String) := match o with
  | none => none
  | some (.inl (a1, a2)) => k a1 a2
  | some (.inr E) => some (.inr E)
theorem xc2_i {A1 A2 B : Type} {o : Option ((A1 × A2) ⊕ String)} {k : A1 → A2 → Option (B ⊕ String)} {z : B ⊕ String} (h : xc2 o k = some z) : (∃ a1 a2, o = some (.inl (a1, a2)) ∧ k a1 a2 = some z) ∨ (∃ E, o = some (.inr E) ∧ z = .inr E) := by
  match o, h with
  | some (.inl (a1, a2)), h => exact Or.inl ⟨a1, a2, rfl, h⟩
  | some (.inr E), h => exact Or.inr ⟨E, rfl, (Option.some.inj h).symm⟩
theorem xc2_l {A1 A2 B : Type} {k : A1 → A2 → Option (B ⊕ String)} {a1 : A1} {a2 : A2} : xc2 (some (.inl (a1, a2))) k = k a1 a2 := rfl
theorem xc2_r {A1 A2 B : Type} {k : A1 → A2 → Option (B ⊕ String)} {E : String} : xc2 (some (.inr E)) k = some (.inr E) := rfl
def xv3 {A1 A2 A3 O : Type} (o : Option (A1 × A2 × A3)) (k : A1 → A2 → A3 → Option O) : Option O := match o with
  | none => none
  | some (a1, a2, a3) => k a1 a2 a3
theorem xv3_i {A1 A2 A3 O : Type} {o : Option (A1 × A2 × A3)} {k : A1 → A2 → A3 → Option O} {z : O} (h : xv3 o k = some z) : ∃ a1 a2 a3, o = some (a1, a2, a3) ∧ k a1 a2 a3 = some z := by
  match o, h with
  | some (a1, a2, a3), h => exact ⟨a1, a2, a3, rfl, h⟩
theorem xv3_s {A1 A2 A3 O : Type} {k : A1 → A2 → A3 → Option O} {a1 : A1} {a2 : A2} {a3 : A3} : xv3 (some (a1, a2, a3)) k = k a1 a2 a3 := rfl
def xc3 {A1 A2 A3 B : Type} (o : Option ((A1 × A2 × A3) ⊕ String)) (k : A1 → A2 → A3 → Option (B ⊕ String)) : Option (B ⊕ String) := match o with
  | none => none
  | some (.inl (a1, a2, a3)) => k a1 a2 a3
  | some (.inr E) => some (.inr E)
theorem xc3_i {A1 A2 A3 B : Type} {o : Option ((A1 × A2 × A3) ⊕ String)} {k : A1 → A2 → A3 → Option (B ⊕ String)} {z : B ⊕ String} (h : xc3 o k = some z) : (∃ a1 a2 a3, o = some (.inl (a1, a2, a3)) ∧ k a1 a2 a3 = some z) ∨ (∃ E, o = some (.inr E) ∧ z = .inr E) := by
  match o, h with
  | some (.inl (a1, a2, a3)), h => exact Or.inl ⟨a1, a2, a3, rfl, h⟩
  | some (.inr E), h => exact Or.inr ⟨E, rfl, (Option.some.inj h).symm⟩
theorem xc3_l {A1 A2 A3 B : Type} {k : A1 → A2 → A3 → Option (B ⊕ String)} {a1 : A1} {a2 : A2} {a3 : A3} : xc3 (some (.inl (a1, a2, a3))) k = k a1 a2 a3 := rfl
theorem xc3_r {A1 A2 A3 B : Type} {k : A1 → A2 → A3 → Option (B ⊕ String)} {E : String} : xc3 (some (.inr E)) k = some (.inr E) := rfl
def xv4 {A1 A2 A3 A4 O : Type} (o : Option (A1 × A2 × A3 × A4)) (k : A1 → A2 → A3 → A4 → Option O) : Option O := match o with
  | none => none
  | some (a1, a2, a3, a4) => k a1 a2 a3 a4
theorem xv4_i {A1 A2 A3 A4 O : Type} {o : Option (A1 × A2 × A3 × A4)} {k : A1 → A2 → A3 → A4 → Option O} {z : O} (h : xv4 o k = some z) : ∃ a1 a2 a3 a4, o = some (a1, a2, a3, a4) ∧ k a1 a2 a3 a4 = some z := by
  match o, h with
  | some (a1, a2, a3, a4), h => exact ⟨a1, a2, a3, a4, rfl, h⟩
theorem xv4_s {A1 A2 A3 A4 O : Type} {k : A1 → A2 → A3 → A4 → Option O} {a1 : A1} {a2 : A2} {a3 : A3} {a4 : A4} : xv4 (some (a1, a2, a3, a4)) k = k a1 a2 a3 a4 := rfl
def xc4 {A1 A2 A3 A4 B : Type} (o : Option ((A1 × A2 × A3 × A4) ⊕ String)) (k : A1 → A2 → A3 → A4 → Option (B ⊕ String)) : Option (B ⊕ String) := match o with
  | none => none
  | some (.inl (a1, a2, a3, a4)) => k a1 a2 a3 a4
  | some (.inr E) => some (.inr E)
theorem xc4_i {A1 A2 A3 A4 B : Type} {o : Option ((A1 × A2 × A3 × A4) ⊕ String)} {k : A1 → A2 → A3 → A4 → Option (B ⊕ String)} {z : B ⊕ String} (h : xc4 o k = some z) : (∃ a1 a2 a3 a4, o = some (.inl (a1, a2, a3, a4)) ∧ k a1 a2 a3 a4 = some z) ∨ (∃ E, o = some (.inr E) ∧ z = .inr E) := by
  match o, h with
  | some (.inl (a1, a2, a3, a4)), h => exact Or.inl ⟨a1, a2, a3, a4, rfl, h⟩
  | some (.inr E), h => exact Or.inr ⟨E, rfl, (Option.some.inj h).symm⟩
theorem xc4_l {A1 A2 A3 A4 B : Type} {k : A1 → A2 → A3 → A4 → Option (B ⊕ String)} {a1 : A1} {a2 : A2} {a3 : A3} {a4 : A4} : xc4 (some (.inl (a1, a2, a3, a4))) k = k a1 a2 a3 a4 := rfl
theorem xc4_r {A1 A2 A3 A4 B : Type} {k : A1 → A2 → A3 → A4 → Option (B ⊕ String)} {E : String} : xc4 (some (.inr E)) k = some (.inr E) := rfl
def QI (below : List Frame) (D : va_G) (ty : List (ClassId × FieldType)) (A : Nat → Prop) (w1 : va_W) (r : Int32) (args : Array Value) (s : State) : State → Prop := MQ below (va_Qi (fun (r' : Int32) (_ : Unit) => r' = r) (fun _ t => cB D ty A w1 t) A) args s 0 0 A
def QV (below : List Frame) (D : va_G) (ty : List (ClassId × FieldType)) (A : Nat → Prop) (w1 : va_W) (args : Array Value) (s : State) : State → Prop := MQ below (va_Qv (fun (_ : Unit) => True) (fun _ t => cB D ty A w1 t) A) args s 0 0 A
def QT (below : List Frame) (D : va_G) (ty : List (ClassId × FieldType)) (w0 : va_W) (E : String) (args : Array Value) (s : State) : State → Prop := vx_MQ below (fun _ _ _ _ => False) (XE D ty w0 s.heap.size E) args s 1 6 (va_A w0 s.heap.size)
section STARTS
variable {p : Program} {l : Launch} {e : Env} {R : Room} {s : State} {m : MethodId} {args : Array Value} {below : List Frame} {meth : Method} {c : Code} {H : Heap} {locs : List Loc}
variable {own : String} {cc b : ByteArray} {nL n pc sz : Nat} {rt : Option FieldType} {rf : FieldType} {rm : Room} {D : va_G} {ty : List (ClassId × FieldType)} {A : Nat → Prop} {y : MethodName} {av : List Value} {ls : Array Slot} {ws w1 : va_W} {r : Int32} {E : String}
theorem mi_start (hy : plainName y.cls = true) (ho : y.cls = own) (hn : (lg_sl av).length ≤ n)
    (body : ∀ (p : Program) (e : Env) (s : State) (m : MethodId) (args : Array Value) (below : List Frame) (meth : Method) (c : Code) (A : Nat → Prop) (ls : Array Slot), CX p s m args c own b n D ty A → meth.sig.returnType = rt → meth.locks = false → va_P D vwCl ws s.heap → va_D A ws → va_S A s.heap s.heap [] → lv_has ls n (lv_args 0 av) → W p l e rm s m args below meth c s.heap [] 0 0 (QI below D ty A w1 r args s) (F0 m 0 ls [])) : MI l y b n rt rm D ty av ws sz r w1 := by
  refine Met.ofW (cc := b) (maxL := n) (ret := rt) hy rfl ?_
  intro p e s m args below meth c s₁ B hml hv
  obtain ⟨rfl, hsz, hP, hK, hD0, hE⟩ := hv
  have hts := atoms_spec (ws := Cond.code y b n rt :: WL) B.pre
  have hown : s.vm.findClass own = some m.cls := by rw [← ho]; exact findClass_of_methodNamed B.named
  subst hsz
  have hD := hD0.self (sz := s.heap.size)
  have hA : ∀ q : Nat, s.heap.size ≤ q → va_A ws s.heap.size q := fun q h => Or.inr h
  have hl := lv_entry av (n := n) hn
  rw [lg_entry_eq]
  exact body p e s m _ below meth c _ _ ⟨B.exec, B.bytes, hml, hown, fun w hw => hts w (List.mem_cons_of_mem _ hw), hK, hE, hA⟩ B.returns B.notSynchronized hP hD va_S.rf hl
theorem mif_start (hy : plainFor y = true) (ho : y.cls = own) (hn : (lg_sl av).length ≤ n)
    (body : ∀ (p : Program) (e : Env) (s : State) (m : MethodId) (args : Array Value) (below : List Frame) (meth : Method) (c : Code) (A : Nat → Prop) (ls : Array Slot), CX p s m args c own b n D ty A → meth.sig.returnType = rt → meth.locks = false → va_P D vwCl ws s.heap → va_D A ws → va_S A s.heap s.heap [] → lv_has ls n (lv_args 0 av) → W p l e rm s m args below meth c s.heap [] 0 0 (QI below D ty A w1 r args s) (F0 m 0 ls [])) : MI l y b n rt rm D ty av ws sz r w1 := by
  refine va_MetF (cc := b) (maxL := n) (ret := rt) hy rfl ?_
  intro p e s m args below meth c s₁ B hml hv
  obtain ⟨rfl, hsz, hP, hK, hD0, hE⟩ := hv
  have hts := atoms_spec (ws := Cond.code y b n rt :: WL) B.pre
  have hown : s.vm.findClass own = some m.cls := by rw [← ho]; exact findClass_of_methodNamed B.named
  subst hsz
  have hD := hD0.self (sz := s.heap.size)
  have hA : ∀ q : Nat, s.heap.size ≤ q → va_A ws s.heap.size q := fun q h => Or.inr h
  have hl := lv_entry av (n := n) hn
  rw [lg_entry_eq]
  exact body p e s m _ below meth c _ _ ⟨B.exec, B.bytes, hml, hown, fun w hw => hts w (List.mem_cons_of_mem _ hw), hK, hE, hA⟩ B.returns B.notSynchronized hP hD va_S.rf hl
theorem mv_start (hy : plainName y.cls = true) (ho : y.cls = own) (hn : (lg_sl av).length ≤ n)
    (body : ∀ (p : Program) (e : Env) (s : State) (m : MethodId) (args : Array Value) (below : List Frame) (meth : Method) (c : Code) (A : Nat → Prop) (ls : Array Slot), CX p s m args c own b n D ty A → meth.sig.returnType = rt → meth.locks = false → va_P D vwCl ws s.heap → va_D A ws → va_S A s.heap s.heap [] → lv_has ls n (lv_args 0 av) → W p l e rm s m args below meth c s.heap [] 0 0 (QV below D ty A w1 args s) (F0 m 0 ls [])) : MV l y b n rt rm D ty av ws sz w1 := by
  refine Met.ofW (cc := b) (maxL := n) (ret := rt) hy rfl ?_
  intro p e s m args below meth c s₁ B hml hv
  obtain ⟨rfl, hsz, hP, hK, hD0, hE⟩ := hv
  have hts := atoms_spec (ws := Cond.code y b n rt :: WL) B.pre
  have hown : s.vm.findClass own = some m.cls := by rw [← ho]; exact findClass_of_methodNamed B.named
  subst hsz
  have hD := hD0.self (sz := s.heap.size)
  have hA : ∀ q : Nat, s.heap.size ≤ q → va_A ws s.heap.size q := fun q h => Or.inr h
  have hl := lv_entry av (n := n) hn
  rw [lg_entry_eq]
  exact body p e s m _ below meth c _ _ ⟨B.exec, B.bytes, hml, hown, fun w hw => hts w (List.mem_cons_of_mem _ hw), hK, hE, hA⟩ B.returns B.notSynchronized hP hD va_S.rf hl
theorem mt_start (hy : plainName y.cls = true) (ho : y.cls = own) (hn : (lg_sl av).length ≤ n)
    (body : ∀ (p : Program) (e : Env) (s : State) (m : MethodId) (args : Array Value) (below : List Frame) (meth : Method) (c : Code) (A : Nat → Prop) (ls : Array Slot), CX p s m args c own b n D ty A → A = va_A ws s.heap.size → (∀ x ∈ c.exceptionTable.toList, False) → meth.locks = false → va_P D vwCl ws s.heap → va_D A ws → va_S A s.heap s.heap [] → lv_has ls n (lv_args 0 av) → W p l e rm s m args below meth c s.heap [] 0 0 (QT below D ty ws E args s) (F0 m 0 ls [])) : MT l y b n rt rm D ty av ws sz E := by
  refine vx_ofW (cc := b) (maxL := n) (ret := rt) hy rfl ?_
  intro p e s m args below meth c s₁ B hml hno hv
  obtain ⟨rfl, hsz, hP, hK, hD0, hE⟩ := hv
  have hts := atoms_spec (ws := Cond.code y b n rt :: WL) B.pre
  have hown : s.vm.findClass own = some m.cls := by rw [← ho]; exact findClass_of_methodNamed B.named
  subst hsz
  have hD := hD0.self (sz := s.heap.size)
  have hA : ∀ q : Nat, s.heap.size ≤ q → va_A ws s.heap.size q := fun q h => Or.inr h
  have hl := lv_entry av (n := n) hn
  rw [lg_entry_eq]
  exact body p e s m _ below meth c _ _ ⟨B.exec, B.bytes, hml, hown, fun w hw => hts w (List.mem_cons_of_mem _ hw), hK, hE, hA⟩ rfl hno B.notSynchronized hP hD va_S.rf hl
theorem mi_ret (C0 : CX p s m args c own cc nL D ty A) (hr : meth.sig.returnType = some rf) (hn : narrow rf (.int r) = .int r) (hlk : meth.locks = false) (hP : va_P D vwCl w1 H) (hD : va_D A w1) (hS : va_S A s.heap H locs) (hdg : decode cc pc = .ok (.ireturn, 1)) : W p l e R s m args below meth c H locs 0 0 (QI below D ty A w1 r args s) (F0 m pc ls [.int r]) :=
  W.zret C0.1 C0.2.1 hr hn (fun t ht hW => ⟨⟨r, (), rfl, rfl, by rw [ht]; exact hP, va_K.moved hW.alike C0.2.2.2.2.2.1, hD⟩, hS.F ht⟩) hS.2.2 hdg hlk
theorem mv_ret (C0 : CX p s m args c own cc nL D ty A) (hr : meth.sig.returnType = none) (hlk : meth.locks = false) (hP : va_P D vwCl w1 H) (hD : va_D A w1) (hS : va_S A s.heap H locs) (hdg : decode cc pc = .ok (.return_, 1)) : W p l e R s m args below meth c H locs 0 0 (QV below D ty A w1 args s) (F0 m pc ls []) :=
  W.vret C0.1 C0.2.1 hr (fun t ht hW => ⟨⟨(), rfl, trivial, by rw [ht]; exact hP, va_K.moved hW.alike C0.2.2.2.2.2.1, hD⟩, hS.F ht⟩) hS.2.2 hdg hlk
end STARTS
def wGo (x : Nat → Nat) (cI cZ : ClassId) (g : St) : va_W := [(x 0, .inr (2, [.ref (x 1), .ref (x 2), .ref (x 3), .ref (x 4), .ref (x 5), .int (g 0 5)])), (x 1, .inl (cI, 18, .inl (g 1))), (x 2, .inl (cI, 6, .inl (g 2))), (x 3, .inl (cI, 6, .inl (g 3))), (x 4, .inl (cI, 64, .inl (g 4))), (x 5, .inl (cI, 64, .inl (g 5)))]
def wFo (x : Nat → Nat) (cI cZ : ClassId) (g : St) : va_W := [(x 0, .inr (1, [.ref (x 1), .ref (x 2), .ref (x 3), .ref (x 4), .ref (x 5)])), (x 1, .inl (cI, 4, .inl (g 1))), (x 2, .inl (cI, 32, .inl (g 2))), (x 3, .inl (cI, 32, .inl (g 3))), (x 4, .inl (cI, 192, .inl (g 4))), (x 5, .inl (cI, 192, .inl (g 5)))]
def wPk (x : Nat → Nat) (cI cZ : ClassId) (g : St) (q : Int64) : va_W := [(x 0, .inr (4, [.ref (x 1), .ref (x 2), .ref (x 3), .ref (x 4), .int (g 0 4), .int (g 0 5), .int (g 0 6), .long q])), (x 1, .inl (cI, 3, .inl (g 1))), (x 2, .inl (cI, 6, .inl (g 2))), (x 3, .inl (cI, 6, .inl (g 3))), (x 4, .inl (cI, 6, .inl (g 4)))]
def wSk (x : Nat → Nat) (cI cZ : ClassId) (g : St) : va_W := [(x 0, .inr (6, [.ref (x 1), .ref (x 2), .ref (x 3), .ref (x 4), .int (g 0 4)])), (x 1, .inl (cI, 10, .inl (g 1))), (x 2, .inl (cI, 10, .inl (g 2))), (x 3, .inl (cI, 10, .inl (g 3))), (x 4, .inl (cZ, 10, .inl (g 4)))]
def wAi (x : Nat → Nat) (cI cZ : ClassId) (g : St) : va_W := [(x 0, .inr (0, [.ref (x 1), .int (g 0 1), .int (g 0 2)])), (x 1, .inl (cI, 200, .inl (g 1)))]
def wJo (x : Nat → Nat) (cI cZ : ClassId) (g : St) : va_W := [(x 0, .inr (3, [.ref (x 1), .int (g 0 1)])), (x 1, .inl (cI, 50, .inl (g 1)))]
def wSh (x : Nat → Nat) (cI cZ : ClassId) (g : St) : va_W := [(x 0, .inr (5, [.int (g 0 0), .int (g 0 1), .int (g 0 2), .int (g 0 3)]))]
def wMo (x : Nat → Nat) (cI cZ : ClassId) (g : St) : va_W := [(x 0, .inr (8, [.int (g 0 0), .int (g 0 1), .ref (x 1), .ref (x 2), .ref (x 3), .ref (x 4), .ref (x 5), .ref (x 6), .ref (x 7), .ref (x 8), .int (g 0 10), .ref (x 9), .ref (x 10), .int (g 0 13), .int (g 0 14), .int (g 0 15), .int (g 0 16), .ref (x 11), .int (g 0 18), .ref (x 12), .ref (x 13), .int (g 0 21), .ref (x 14), .int (g 0 23), .int (g 0 24), .int (g 0 25), .int (g 0 26), .int (g 0 27), .int (g 0 28), .int (g 0 29), .ref (x 15)])), (x 1, .inl (cI, 18, .inl (g 1))), (x 2, .inl (cI, 6, .inl (g 2))), (x 3, .inl (cZ, 36, .inl (g 3))), (x 4, .inl (cI, 4, .inl (g 4))), (x 5, .inl (cI, 32, .inl (g 5))), (x 6, .inl (cI, 32, .inl (g 6))), (x 7, .inl (cI, 192, .inl (g 7))), (x 8, .inl (cI, 192, .inl (g 8))), (x 9, .inl (cI, 6, .inl (g 9))), (x 10, .inl (cI, 6, .inl (g 10))), (x 11, .inl (cI, 64, .inl (g 11))), (x 12, .inl (cI, 30, .inl (g 12))), (x 13, .inl (cZ, 10, .inl (g 13))), (x 14, .inl (cI, 200, .inl (g 14))), (x 15, .inl (cI, 50, .inl (g 15)))]
end
section
def wCc (x : Nat) (cI cZ : ClassId) (xGo xFo xPk xSk xAi xSh xJo : Nat → Nat) (gGo gFo gPk : St) (qPk : Int64) (gSk gAi gSh gJo : St) : va_W := (x, .inr (7, [.ref (xGo 0), .ref (xFo 0), .ref (xPk 0), .ref (xSk 0), .ref (xAi 0), .ref (xSh 0), .ref (xJo 0)])) :: (wGo xGo cI cZ gGo ++ (wFo xFo cI cZ gFo ++ (wPk xPk cI cZ gPk qPk ++ (wSk xSk cI cZ gSk ++ (wAi xAi cI cZ gAi ++ (wSh xSh cI cZ gSh ++ wJo xJo cI cZ gJo))))))
set_option maxRecDepth 20000 in
theorem k_Cc_requireRoom : YS y_Cc_requireRoom b_Cc_requireRoom 2 (Option.none : Option Jvm.ClassFile.FieldType) 2 := ⟨m_243, m_23, m_242, by decide +kernel⟩
set_option maxRecDepth 20000 in
theorem k_Cc_requireRange : YS y_Cc_requireRange b_Cc_requireRange 3 (Option.none : Option Jvm.ClassFile.FieldType) 3 := ⟨m_314, m_23, m_313, by decide +kernel⟩
set_option maxRecDepth 20000 in
theorem k_Go_add : YV y_Go_add b_Go_add 6 (some .int) 4 := ⟨m_240, m_24, m_238, m_239, by decide +kernel⟩
set_option maxRecDepth 20000 in
theorem k_Cc_object : YV y_Cc_object b_Cc_object 5 (some .int) 4 := ⟨m_236, m_23, m_234, m_235, by decide +kernel⟩
set_option maxRecDepth 20000 in
theorem k_Cc_requireIndex : YS y_Cc_requireIndex b_Cc_requireIndex 2 (Option.none : Option Jvm.ClassFile.FieldType) 2 := ⟨m_346, m_23, m_345, by decide +kernel⟩
set_option maxRecDepth 20000 in
theorem k_Go_setWeak : YV y_Go_setWeak b_Go_setWeak 6 (some .boolean) 3 := ⟨m_343, m_24, m_341, m_342, by decide +kernel⟩
set_option maxRecDepth 20000 in
theorem k_Cc_weak : YV y_Cc_weak b_Cc_weak 4 (some .boolean) 3 := ⟨m_339, m_23, m_337, m_338, by decide +kernel⟩
set_option maxRecDepth 20000 in
theorem k_Fo_addRow : YV y_Fo_addRow b_Fo_addRow 6 (some .int) 2 := ⟨m_373, m_25, m_371, m_372, by decide +kernel⟩
set_option maxRecDepth 20000 in
theorem k_Cc_foam : YV y_Cc_foam b_Cc_foam 3 (some .int) 2 := ⟨m_369, m_23, m_367, m_368, by decide +kernel⟩
set_option maxRecDepth 20000 in
theorem k_Fo_placeOf : YV y_Fo_placeOf b_Fo_placeOf 3 (some .int) 2 := ⟨m_391, m_25, m_390, m_1, by decide +kernel⟩
set_option maxRecDepth 20000 in
theorem k_Fo_addPoint : YV y_Fo_addPoint b_Fo_addPoint 9 (some .int) 4 := ⟨m_387, m_25, m_385, m_386, by decide +kernel⟩
set_option maxRecDepth 20000 in
theorem k_Cc_point : YV y_Cc_point b_Cc_point 5 (some .int) 4 := ⟨m_383, m_23, m_381, m_382, by decide +kernel⟩
set_option maxRecDepth 20000 in
theorem k_Ma_floorDiv : YS y_Ma_floorDiv b_Ma_floorDiv 3 (some .int) 2 := ⟨m_409, m_38, m_408, by decide +kernel⟩
set_option maxRecDepth 20000 in
theorem k_Fo_valueBetween : YV y_Fo_valueBetween b_Fo_valueBetween 6 (some .int) 3 := ⟨m_406, m_25, m_405, m_2, by decide +kernel⟩
set_option maxRecDepth 20000 in
theorem k_Fo_valueAt : YV y_Fo_valueAt b_Fo_valueAt 8 (some .int) 3 := ⟨m_402, m_25, m_400, m_401, by decide +kernel⟩
set_option maxRecDepth 20000 in
theorem k_Cc_value : YV y_Cc_value b_Cc_value 4 (some .int) 3 := ⟨m_398, m_23, m_396, m_397, by decide +kernel⟩
set_option maxRecDepth 20000 in
theorem k_Fo_leastThickness : YV y_Fo_leastThickness b_Fo_leastThickness 9 (some .int) 3 := ⟨m_420, m_25, m_418, m_419, by decide +kernel⟩
set_option maxRecDepth 20000 in
theorem k_Cc_thickness : YV y_Cc_thickness b_Cc_thickness 4 (some .int) 3 := ⟨m_416, m_23, m_414, m_415, by decide +kernel⟩
set_option maxRecDepth 20000 in
theorem k_Pk_isIn : YS y_Pk_isIn b_Pk_isIn 2 (some .boolean) 2 := ⟨m_442, m_26, m_441, by decide +kernel⟩
set_option maxRecDepth 20000 in
theorem k_Go_mayStandAnyhow : YV y_Go_mayStandAnyhow b_Go_mayStandAnyhow 2 (some .boolean) 1 := ⟨m_446, m_24, m_444, m_445, by decide +kernel⟩
set_option maxRecDepth 20000 in
theorem k_Go_sizeOf : YV y_Go_sizeOf b_Go_sizeOf 4 (some .int) 3 := ⟨m_463, m_24, m_461, m_462, by decide +kernel⟩
set_option maxRecDepth 20000 in
theorem k_Go_mayStand : YV y_Go_mayStand b_Go_mayStand 3 (some .boolean) 2 := ⟨m_469, m_24, m_467, m_468, by decide +kernel⟩
set_option maxRecDepth 20000 in
theorem k_Go_shortestWay : YV y_Go_shortestWay b_Go_shortestWay 9 (some .int) 3 := ⟨m_459, m_24, m_457, m_458, by decide +kernel⟩
set_option maxRecDepth 20000 in
theorem k_Pk_triedIsLower : YV y_Pk_triedIsLower b_Pk_triedIsLower 2 (some .boolean) 0 := ⟨m_474, m_26, m_473, m_5, by decide +kernel⟩
set_option maxRecDepth 20000 in
theorem k_Pk_keep : YV y_Pk_keep b_Pk_keep 4 (Option.none : Option Jvm.ClassFile.FieldType) 3 := ⟨m_478, m_26, m_477, m_6, by decide +kernel⟩
set_option maxRecDepth 20000 in
theorem k_Pk_tryWithin : YV y_Pk_tryWithin b_Pk_tryWithin 7 (Option.none : Option Jvm.ClassFile.FieldType) 3 := ⟨m_455, m_26, m_454, m_4, by decide +kernel⟩
set_option maxRecDepth 20000 in
theorem k_Pk_findLeast : YV y_Pk_findLeast b_Pk_findLeast 5 (Option.none : Option Jvm.ClassFile.FieldType) 1 := ⟨m_450, m_26, m_449, m_3, by decide +kernel⟩
set_option maxRecDepth 20000 in
theorem k_Pk_placeInRow : YV y_Pk_placeInRow b_Pk_placeInRow 4 (Option.none : Option Jvm.ClassFile.FieldType) 1 := ⟨m_485, m_26, m_484, m_7, by decide +kernel⟩
set_option maxRecDepth 20000 in
theorem k_In_bitCount : YS y_In_bitCount b_In_bitCount 1 (some .int) 1 := ⟨m_488, m_40, m_487, by decide +kernel⟩
set_option maxRecDepth 20000 in
theorem k_Pk_packSet : YV y_Pk_packSet b_Pk_packSet 5 (some .int) 3 := ⟨m_432, m_26, m_430, m_431, by decide +kernel⟩
set_option maxRecDepth 20000 in
theorem k_Cc_pack : YV y_Cc_pack b_Cc_pack 3 (some .int) 2 := ⟨m_428, m_23, m_426, m_427, by decide +kernel⟩
set_option maxRecDepth 20000 in
theorem k_Pk_requirePacked : YV y_Pk_requirePacked b_Pk_requirePacked 1 (Option.none : Option Jvm.ClassFile.FieldType) 0 := ⟨m_507, m_26, m_506, m_8, by decide +kernel⟩
set_option maxRecDepth 20000 in
theorem k_Pk_sizeAlong : YV y_Pk_sizeAlong b_Pk_sizeAlong 2 (some .int) 1 := ⟨m_502, m_26, m_500, m_501, by decide +kernel⟩
set_option maxRecDepth 20000 in
theorem k_Cc_size : YV y_Cc_size b_Cc_size 2 (some .int) 1 := ⟨m_498, m_23, m_496, m_497, by decide +kernel⟩
set_option maxRecDepth 20000 in
theorem k_Pk_tell : YV y_Pk_tell b_Pk_tell 3 (some .int) 2 := ⟨m_522, m_26, m_520, m_521, by decide +kernel⟩
set_option maxRecDepth 20000 in
theorem k_Cc_at : YV y_Cc_at b_Cc_at 3 (some .int) 2 := ⟨m_517, m_23, m_515, m_516, by decide +kernel⟩
set_option maxRecDepth 20000 in
theorem k_Sk_add : YV y_Sk_add b_Sk_add 4 (some .int) 3 := ⟨m_534, m_27, m_532, m_533, by decide +kernel⟩
set_option maxRecDepth 20000 in
theorem k_Cc_crate : YV y_Cc_crate b_Cc_crate 4 (some .int) 3 := ⟨m_530, m_23, m_528, m_529, by decide +kernel⟩
set_option maxRecDepth 20000 in
theorem k_Sk_hasRoom : YV y_Sk_hasRoom b_Sk_hasRoom 7 (some .boolean) 4 := ⟨m_552, m_27, m_551, m_9, by decide +kernel⟩
set_option maxRecDepth 20000 in
theorem k_Sk_takeFor : YV y_Sk_takeFor b_Sk_takeFor 10 (some .int) 3 := ⟨m_547, m_27, m_545, m_546, by decide +kernel⟩
set_option maxRecDepth 20000 in
theorem k_Cc_match : YV y_Cc_match b_Cc_match 1 (some .int) 0 := ⟨m_543, m_23, m_541, m_542, by decide +kernel⟩
set_option maxRecDepth 20000 in
theorem k_Sk_release : YV y_Sk_release b_Sk_release 3 (some .boolean) 1 := ⟨m_563, m_27, m_561, m_562, by decide +kernel⟩
set_option maxRecDepth 20000 in
theorem k_Cc_free : YV y_Cc_free b_Cc_free 2 (some .boolean) 1 := ⟨m_559, m_23, m_557, m_558, by decide +kernel⟩
set_option maxRecDepth 20000 in
theorem k_Go_partSet : YV y_Go_partSet b_Go_partSet 10 (Option.none : Option Jvm.ClassFile.FieldType) 2 := ⟨m_582, m_24, m_581, m_10, by decide +kernel⟩
set_option maxRecDepth 20000 in
theorem k_Go_leastCrates : YV y_Go_leastCrates b_Go_leastCrates 4 (some .int) 1 := ⟨m_575, m_24, m_573, m_574, by decide +kernel⟩
set_option maxRecDepth 20000 in
theorem k_Cc_split : YV y_Cc_split b_Cc_split 2 (some .int) 1 := ⟨m_571, m_23, m_569, m_570, by decide +kernel⟩
set_option maxRecDepth 20000 in
theorem k_Ai_setLag : YV y_Ai_setLag b_Ai_setLag 3 (some .int) 1 := ⟨m_593, m_28, m_591, m_592, by decide +kernel⟩
set_option maxRecDepth 20000 in
theorem k_Cc_lag : YV y_Cc_lag b_Cc_lag 2 (some .int) 1 := ⟨m_589, m_23, m_587, m_588, by decide +kernel⟩
set_option maxRecDepth 20000 in
theorem k_Ma_max : YS y_Ma_max b_Ma_max 2 (some .int) 2 := ⟨m_609, m_38, m_608, by decide +kernel⟩
set_option maxRecDepth 20000 in
theorem k_Ai_nextHour : YV y_Ai_nextHour b_Ai_nextHour 4 (some .int) 1 := ⟨m_605, m_28, m_603, m_604, by decide +kernel⟩
set_option maxRecDepth 20000 in
theorem k_Cc_climate : YV y_Cc_climate b_Cc_climate 2 (some .int) 1 := ⟨m_601, m_23, m_599, m_600, by decide +kernel⟩
set_option maxRecDepth 20000 in
theorem k_Ai_afterHour : YV y_Ai_afterHour b_Ai_afterHour 2 (some .int) 1 := ⟨m_621, m_28, m_619, m_620, by decide +kernel⟩
set_option maxRecDepth 20000 in
theorem k_Cc_inside : YV y_Cc_inside b_Cc_inside 2 (some .int) 1 := ⟨m_617, m_23, m_615, m_616, by decide +kernel⟩
set_option maxRecDepth 20000 in
theorem k_Ai_longestWithin : YV y_Ai_longestWithin b_Ai_longestWithin 7 (some .int) 2 := ⟨m_633, m_28, m_631, m_632, by decide +kernel⟩
set_option maxRecDepth 20000 in
theorem k_Cc_steady : YV y_Cc_steady b_Cc_steady 3 (some .int) 2 := ⟨m_629, m_23, m_627, m_628, by decide +kernel⟩
set_option maxRecDepth 20000 in
theorem k_Sh_allow : YV y_Sh_allow b_Sh_allow 3 (Option.none : Option Jvm.ClassFile.FieldType) 2 := ⟨m_647, m_29, m_645, m_646, by decide +kernel⟩
set_option maxRecDepth 20000 in
theorem k_Cc_limit : YV y_Cc_limit b_Cc_limit 3 (Option.none : Option Jvm.ClassFile.FieldType) 2 := ⟨m_643, m_23, m_641, m_642, by decide +kernel⟩
set_option maxRecDepth 20000 in
theorem k_Sh_add : YV y_Sh_add b_Sh_add 4 (some .boolean) 2 := ⟨m_659, m_29, m_657, m_658, by decide +kernel⟩
set_option maxRecDepth 20000 in
theorem k_Cc_shock : YV y_Cc_shock b_Cc_shock 3 (some .boolean) 2 := ⟨m_655, m_23, m_653, m_654, by decide +kernel⟩
set_option maxRecDepth 20000 in
theorem k_Jo_plan : YV y_Jo_plan b_Jo_plan 6 (some .int) 2 := ⟨m_670, m_30, m_668, m_669, by decide +kernel⟩
set_option maxRecDepth 20000 in
theorem k_Cc_route : YV y_Cc_route b_Cc_route 3 (some .int) 2 := ⟨m_666, m_23, m_664, m_665, by decide +kernel⟩
set_option maxRecDepth 20000 in
theorem k_Jo_dropOf : YV y_Jo_dropOf b_Jo_dropOf 2 (some .int) 1 := ⟨m_684, m_30, m_682, m_683, by decide +kernel⟩
set_option maxRecDepth 20000 in
theorem k_Cc_drop : YV y_Cc_drop b_Cc_drop 2 (some .int) 1 := ⟨m_680, m_23, m_678, m_679, by decide +kernel⟩
set_option maxRecDepth 20000 in
theorem k_Sk_takenCount : YV y_Sk_takenCount b_Sk_takenCount 3 (some .int) 0 := ⟨m_696, m_27, m_694, m_695, by decide +kernel⟩
set_option maxRecDepth 20000 in
theorem k_Cc_count : YV y_Cc_count b_Cc_count 2 (some .int) 1 := ⟨m_692, m_23, m_690, m_691, by decide +kernel⟩
set_option maxRecDepth 20000 in
theorem k_Mo_thrown : YV y_Mo_thrown b_Mo_thrown 1 (some .int) 0 := ⟨m_801, m_31, m_799, m_800, by decide +kernel⟩
set_option maxRecDepth 20000 in
theorem k_Mo_within : YS y_Mo_within b_Mo_within 3 (some .boolean) 3 := ⟨m_808, m_31, m_807, by decide +kernel⟩
set_option maxRecDepth 20000 in
theorem k_Mo_goes : YV y_Mo_goes b_Mo_goes 4 (some .boolean) 3 := ⟨m_813, m_31, m_812, m_11, by decide +kernel⟩
set_option maxRecDepth 20000 in
theorem k_Mo_object : YV y_Mo_object b_Mo_object 5 (some .int) 4 := ⟨m_805, m_31, m_803, m_804, by decide +kernel⟩
set_option maxRecDepth 20000 in
theorem k_Mo_isObject : YV y_Mo_isObject b_Mo_isObject 2 (some .boolean) 1 := ⟨m_821, m_31, m_820, m_12, by decide +kernel⟩
set_option maxRecDepth 20000 in
theorem k_Mo_weak : YV y_Mo_weak b_Mo_weak 5 (some .boolean) 3 := ⟨m_817, m_31, m_815, m_816, by decide +kernel⟩
set_option maxRecDepth 20000 in
theorem k_Mo_foam : YV y_Mo_foam b_Mo_foam 5 (some .int) 2 := ⟨m_825, m_31, m_823, m_824, by decide +kernel⟩
set_option maxRecDepth 20000 in
theorem k_Mo_isRow : YV y_Mo_isRow b_Mo_isRow 3 (some .boolean) 2 := ⟨m_833, m_31, m_832, m_13, by decide +kernel⟩
set_option maxRecDepth 20000 in
theorem k_Mo_point : YV y_Mo_point b_Mo_point 9 (some .int) 4 := ⟨m_829, m_31, m_827, m_828, by decide +kernel⟩
set_option maxRecDepth 20000 in
theorem k_Mo_up : YS y_Mo_up b_Mo_up 3 (some .int) 2 := ⟨m_844, m_31, m_843, by decide +kernel⟩
set_option maxRecDepth 20000 in
theorem k_Mo_valueOf : YV y_Mo_valueOf b_Mo_valueOf 4 (some .int) 2 := ⟨m_841, m_31, m_840, m_14, by decide +kernel⟩
set_option maxRecDepth 20000 in
theorem k_Mo_value : YV y_Mo_value b_Mo_value 4 (some .int) 3 := ⟨m_837, m_31, m_835, m_836, by decide +kernel⟩
set_option maxRecDepth 20000 in
theorem k_Mo_thickness : YV y_Mo_thickness b_Mo_thickness 9 (some .int) 3 := ⟨m_848, m_31, m_846, m_847, by decide +kernel⟩
set_option maxRecDepth 20000 in
theorem k_Mo_isIn : YS y_Mo_isIn b_Mo_isIn 2 (some .boolean) 2 := ⟨m_855, m_31, m_854, by decide +kernel⟩
set_option maxRecDepth 20000 in
theorem k_Mo_turn : YV y_Mo_turn b_Mo_turn 5 (Option.none : Option Jvm.ClassFile.FieldType) 2 := ⟨m_860, m_31, m_859, m_15, by decide +kernel⟩
set_option maxRecDepth 20000 in
theorem k_Mo_stands : YV y_Mo_stands b_Mo_stands 4 (some .boolean) 1 := ⟨m_864, m_31, m_863, m_16, by decide +kernel⟩
set_option maxRecDepth 20000 in
theorem k_Mo_along : YV y_Mo_along b_Mo_along 6 (some .int) 3 := ⟨m_872, m_31, m_871, m_18, by decide +kernel⟩
set_option maxRecDepth 20000 in
theorem k_Mo_lengthOf : YV y_Mo_lengthOf b_Mo_lengthOf 5 (some .int) 2 := ⟨m_868, m_31, m_867, m_17, by decide +kernel⟩
set_option maxRecDepth 20000 in
theorem k_Mo_widest : YV y_Mo_widest b_Mo_widest 7 (some .int) 3 := ⟨m_876, m_31, m_875, m_19, by decide +kernel⟩
set_option maxRecDepth 20000 in
theorem k_Mo_pack : YV y_Mo_pack b_Mo_pack 11 (some .int) 2 := ⟨m_852, m_31, m_850, m_851, by decide +kernel⟩
set_option maxRecDepth 20000 in
theorem k_Mo_size : YV y_Mo_size b_Mo_size 2 (some .int) 1 := ⟨m_880, m_31, m_878, m_879, by decide +kernel⟩
set_option maxRecDepth 20000 in
theorem k_Mo_at : YV y_Mo_at b_Mo_at 5 (some .int) 2 := ⟨m_884, m_31, m_882, m_883, by decide +kernel⟩
set_option maxRecDepth 20000 in
theorem k_Mo_crate : YV y_Mo_crate b_Mo_crate 4 (some .int) 3 := ⟨m_888, m_31, m_886, m_887, by decide +kernel⟩
set_option maxRecDepth 20000 in
theorem k_Mo_hasRoom : YV y_Mo_hasRoom b_Mo_hasRoom 6 (some .boolean) 1 := ⟨m_896, m_31, m_895, m_20, by decide +kernel⟩
set_option maxRecDepth 20000 in
theorem k_Mo_match : YV y_Mo_match b_Mo_match 7 (some .int) 0 := ⟨m_892, m_31, m_890, m_891, by decide +kernel⟩
set_option maxRecDepth 20000 in
theorem k_Mo_free : YV y_Mo_free b_Mo_free 3 (some .boolean) 1 := ⟨m_900, m_31, m_898, m_899, by decide +kernel⟩
set_option maxRecDepth 20000 in
theorem k_Mo_weight : YV y_Mo_weight b_Mo_weight 4 (some .int) 1 := ⟨m_908, m_31, m_907, m_21, by decide +kernel⟩
set_option maxRecDepth 20000 in
theorem k_Mo_split : YV y_Mo_split b_Mo_split 6 (some .int) 1 := ⟨m_904, m_31, m_902, m_903, by decide +kernel⟩
set_option maxRecDepth 20000 in
theorem k_Mo_lag : YV y_Mo_lag b_Mo_lag 3 (some .int) 1 := ⟨m_912, m_31, m_910, m_911, by decide +kernel⟩
set_option maxRecDepth 20000 in
theorem k_Mo_climate : YV y_Mo_climate b_Mo_climate 3 (some .int) 1 := ⟨m_916, m_31, m_914, m_915, by decide +kernel⟩
set_option maxRecDepth 20000 in
theorem k_Mo_inside : YV y_Mo_inside b_Mo_inside 2 (some .int) 1 := ⟨m_920, m_31, m_918, m_919, by decide +kernel⟩
set_option maxRecDepth 20000 in
theorem k_Mo_steady : YV y_Mo_steady b_Mo_steady 6 (some .int) 2 := ⟨m_924, m_31, m_922, m_923, by decide +kernel⟩
set_option maxRecDepth 20000 in
theorem k_Mo_limit : YV y_Mo_limit b_Mo_limit 3 (Option.none : Option Jvm.ClassFile.FieldType) 2 := ⟨m_928, m_31, m_926, m_927, by decide +kernel⟩
set_option maxRecDepth 20000 in
theorem k_Mo_shock : YV y_Mo_shock b_Mo_shock 4 (some .boolean) 2 := ⟨m_932, m_31, m_930, m_931, by decide +kernel⟩
set_option maxRecDepth 20000 in
theorem k_Mo_route : YV y_Mo_route b_Mo_route 6 (some .int) 2 := ⟨m_936, m_31, m_934, m_935, by decide +kernel⟩
set_option maxRecDepth 20000 in
theorem k_Mo_drop : YV y_Mo_drop b_Mo_drop 2 (some .int) 1 := ⟨m_942, m_31, m_940, m_941, by decide +kernel⟩
set_option maxRecDepth 20000 in
theorem k_Mo_count : YV y_Mo_count b_Mo_count 4 (some .int) 1 := ⟨m_946, m_31, m_944, m_945, by decide +kernel⟩
set_option maxRecDepth 20000 in
theorem t_Cc_149 : YT R_Cc 147 149 151 "java/lang/IndexOutOfBoundsException" "no such count" := ⟨m_347, m_37, List.mem_of_getElem? (i := 9) rfl, by decide, by decide +kernel, by decide +kernel, by decide +kernel, by decide +kernel, by decide +kernel⟩
set_option maxRecDepth 20000 in
theorem t_Cc_154 : YT R_Cc 147 154 151 "java/lang/IndexOutOfBoundsException" "no such number" := ⟨m_347, m_37, List.mem_of_getElem? (i := 2) rfl, by decide, by decide +kernel, by decide +kernel, by decide +kernel, by decide +kernel, by decide +kernel⟩
set_option maxRecDepth 20000 in
theorem t_Cc_158 : YT R_Cc 156 158 160 "java/lang/IllegalArgumentException" "out of range" := ⟨m_315, m_36, List.mem_of_getElem? (i := 1) rfl, by decide, by decide +kernel, by decide +kernel, by decide +kernel, by decide +kernel, by decide +kernel⟩
set_option maxRecDepth 20000 in
theorem t_Cc_163 : YT R_Cc 161 163 165 "java/lang/IllegalStateException" "no room for more" := ⟨m_244, m_35, List.mem_of_getElem? (i := 0) rfl, by decide, by decide +kernel, by decide +kernel, by decide +kernel, by decide +kernel, by decide +kernel⟩
set_option maxRecDepth 20000 in
theorem t_Ai_44 : YT R_Ai 42 44 46 "java/lang/IllegalArgumentException" "low above high" := ⟨m_634, m_36, List.mem_of_getElem? (i := 8) rfl, by decide, by decide +kernel, by decide +kernel, by decide +kernel, by decide +kernel, by decide +kernel⟩
set_option maxRecDepth 20000 in
theorem t_Go_56 : YT R_Go 54 56 58 "java/lang/IllegalArgumentException" "grams below 1" := ⟨m_576, m_36, List.mem_of_getElem? (i := 7) rfl, by decide, by decide +kernel, by decide +kernel, by decide +kernel, by decide +kernel, by decide +kernel⟩
set_option maxRecDepth 20000 in
theorem t_Pk_36 : YT R_Pk 34 36 38 "java/lang/IndexOutOfBoundsException" "no such object" := ⟨m_433, m_37, List.mem_of_getElem? (i := 3) rfl, by decide, by decide +kernel, by decide +kernel, by decide +kernel, by decide +kernel, by decide +kernel⟩
set_option maxRecDepth 20000 in
theorem t_Pk_84 : YT R_Pk 34 84 38 "java/lang/IndexOutOfBoundsException" "no such place" := ⟨m_433, m_37, List.mem_of_getElem? (i := 6) rfl, by decide, by decide +kernel, by decide +kernel, by decide +kernel, by decide +kernel, by decide +kernel⟩
set_option maxRecDepth 20000 in
theorem t_Pk_43 : YT R_Pk 41 43 45 "java/lang/IllegalArgumentException" "empty set" := ⟨m_436, m_36, List.mem_of_getElem? (i := 4) rfl, by decide, by decide +kernel, by decide +kernel, by decide +kernel, by decide +kernel, by decide +kernel⟩
set_option maxRecDepth 20000 in
theorem t_Pk_88 : YT R_Pk 86 88 90 "java/lang/IllegalStateException" "nothing was packed" := ⟨m_508, m_35, List.mem_of_getElem? (i := 5) rfl, by decide, by decide +kernel, by decide +kernel, by decide +kernel, by decide +kernel, by decide +kernel⟩
end
section
def f_Cc_requireRoom (p1 : Int32) (p2 : Int32) : Option ((Unit) ⊕ String) := if p1 < p2 then (some (.inl ())) else (some (.inr "java/lang/IllegalStateException"))
def f_Cc_requireRange_J10  : Option ((Unit) ⊕ String) := some (.inr "java/lang/IllegalArgumentException")
def f_Cc_requireRange (p1 : Int32) (p2 : Int32) (p3 : Int32) : Option ((Unit) ⊕ String) := if p1 < p2 then (f_Cc_requireRange_J10 ) else (if p1 ≤ p3 then (some (.inl ())) else (f_Cc_requireRange_J10 ))
def f_Go_add (gGo : St) (p1 : Int32) (p2 : Int32) (p3 : Int32) (p4 : Int32) : Option ((Int32 × St) ⊕ String) := xc0 (f_Cc_requireRoom (gGo 0 5) 6) (xc0 (f_Cc_requireRange p1 1 200) (xc0 (f_Cc_requireRange p2 1 200) (xc0 (f_Cc_requireRange p3 1 200) (xc0 (f_Cc_requireRange p4 1 100000) (letb ((gGo 0 5) * 3) (fun x_6 => gb (inb x_6 18) (letb (up2 gGo 1 (x_6 : Int32).toNatClampNeg p1) (fun gGo_8 => gb (inb (x_6 + 1) 18) (letb (up2 gGo_8 1 (x_6 + 1 : Int32).toNatClampNeg p2) (fun gGo_10 => gb (inb (x_6 + 2) 18) (letb (up2 gGo_10 1 (x_6 + 2 : Int32).toNatClampNeg p3) (fun gGo_12 => gb (inb (gGo_12 0 5) 6) (letb (up2 gGo_12 2 (gGo_12 0 5 : Int32).toNatClampNeg p4) (fun gGo_14 => letb (up2 gGo_14 0 5 ((gGo_14 0 5) + 1)) (fun gGo_15 => some (.inl ((gGo_15 0 5) - 1, gGo_15)))))))))))))))))
def f_Cc_object (gGo : St) (gFo : St) (gPk : St) (qPk : Int64) (gSk : St) (gAi : St) (gSh : St) (gJo : St) (p1 : Int32) (p2 : Int32) (p3 : Int32) (p4 : Int32) : Option ((Int32 × St) ⊕ String) := xc2 (f_Go_add gGo p1 p2 p3 p4) (fun r_1 gGo_2 => some (.inl (r_1, gGo_2)))
def f_Cc_requireIndex_J9  : Option ((Unit) ⊕ String) := some (.inr "java/lang/IndexOutOfBoundsException")
def f_Cc_requireIndex (p1 : Int32) (p2 : Int32) : Option ((Unit) ⊕ String) := if p1 < 0 then (f_Cc_requireIndex_J9 ) else (if p1 < p2 then (some (.inl ())) else (f_Cc_requireIndex_J9 ))
def f_Go_setWeak_J70 (gGo : St) (p3 : Int32) (s1_70 : Int32) (s2_70 : Int32) (v4_70 : Int32) (v5_70 : Int32) : Option ((Int32 × St) ⊕ String) := gb (inb s1_70 6) (letb (up2 gGo 3 (s1_70 : Int32).toNatClampNeg s2_70) (fun gGo_7 => if v5_70 = p3 then (some (.inl (0, gGo_7))) else (some (.inl (1, gGo_7)))))
def f_Go_setWeak_J36 (gGo : St) (p1 : Int32) (p3 : Int32) (s0_36 : Int32) (v4_36 : Int32) : Option ((Int32 × St) ⊕ String) := if p3 = 0 then (gb (inb p1 6) (letb (gGo 3 (p1 : Int32).toNatClampNeg) (fun x_11 => f_Go_setWeak_J70 gGo p3 p1 (x_11 &&& (v4_36 ^^^ (-1))) v4_36 s0_36))) else (gb (inb p1 6) (letb (gGo 3 (p1 : Int32).toNatClampNeg) (fun x_13 => f_Go_setWeak_J70 gGo p3 p1 (x_13 ||| v4_36) v4_36 s0_36)))
def f_Go_setWeak (gGo : St) (p1 : Int32) (p2 : Int32) (p3 : Int32) : Option ((Int32 × St) ⊕ String) := xc0 (f_Cc_requireIndex p1 (gGo 0 5)) (xc0 (f_Cc_requireIndex p2 6) (letb (1 <<< (p2 &&& 31)) (fun x_3 => gb (inb p1 6) (letb (gGo 3 (p1 : Int32).toNatClampNeg) (fun x_5 => if x_5 &&& x_3 = 0 then (f_Go_setWeak_J36 gGo p1 p3 0 x_3) else (f_Go_setWeak_J36 gGo p1 p3 1 x_3))))))
def f_Cc_weak (gGo : St) (gFo : St) (gPk : St) (qPk : Int64) (gSk : St) (gAi : St) (gSh : St) (gJo : St) (p1 : Int32) (p2 : Int32) (p3 : Int32) : Option ((Int32 × St) ⊕ String) := xc2 (f_Go_setWeak gGo p1 p2 p3) (fun r_1 gGo_2 => gb (isb r_1) (some (.inl (r_1, gGo_2))))
def f_Fo_addRow_J43 (gFo : St) (p1 : Int32) (p2 : Int32) (s0_43 : Int32) (v3_43 : Int32) (v4_43 : Int32) : Option ((Int32 × St) ⊕ String) := xc0 (f_Cc_requireRange p2 (s0_43 + 1) 500) (gb (inb v4_43 32) (letb (up2 gFo 2 (v4_43 : Int32).toNatClampNeg p2) (fun gFo_8 => gb (inb p1 4) (letb (up2 gFo_8 1 (p1 : Int32).toNatClampNeg (v3_43 + 1)) (fun gFo_10 => some (.inl (v3_43, gFo_10)))))))
def f_Fo_addRow (gFo : St) (p1 : Int32) (p2 : Int32) : Option ((Int32 × St) ⊕ String) := xc0 (f_Cc_requireIndex p1 4) (gb (inb p1 4) (letb (gFo 1 (p1 : Int32).toNatClampNeg) (fun x_3 => xc0 (f_Cc_requireRoom x_3 8) (letb ((p1 * 8) + x_3) (fun x_5 => if x_3 = 0 then (f_Fo_addRow_J43 gFo p1 p2 0 x_3 x_5) else (gb (inb (x_5 - 1) 32) (letb (gFo 2 (x_5 - 1 : Int32).toNatClampNeg) (fun x_13 => f_Fo_addRow_J43 gFo p1 p2 x_13 x_3 x_5))))))))
def f_Cc_foam (gGo : St) (gFo : St) (gPk : St) (qPk : Int64) (gSk : St) (gAi : St) (gSh : St) (gJo : St) (p1 : Int32) (p2 : Int32) : Option ((Int32 × St) ⊕ String) := xc2 (f_Fo_addRow gFo p1 p2) (fun r_1 gFo_2 => some (.inl (r_1, gFo_2)))
def f_Fo_placeOf (gFo : St) (p1 : Int32) (p2 : Int32) : Option ((Int32) ⊕ String) := xc0 (f_Cc_requireIndex p1 4) (gb (inb p1 4) (letb (gFo 1 (p1 : Int32).toNatClampNeg) (fun x_3 => xc0 (f_Cc_requireIndex p2 x_3) (some (.inl ((p1 * 8) + p2))))))
def f_Fo_addPoint_J52 (gFo : St) (p3 : Int32) (p4 : Int32) (s0_52 : Int32) (v5_52 : Int32) (v6_52 : Int32) (v7_52 : Int32) : Option ((Int32 × St) ⊕ String) := xc0 (f_Cc_requireRange p3 (s0_52 + 1) 10000) (xc0 (f_Cc_requireRange p4 1 1000) (gb (inb v7_52 192) (letb (up2 gFo 4 (v7_52 : Int32).toNatClampNeg p3) (fun gFo_10 => gb (inb v7_52 192) (letb (up2 gFo_10 5 (v7_52 : Int32).toNatClampNeg p4) (fun gFo_12 => gb (inb v5_52 32) (letb (up2 gFo_12 3 (v5_52 : Int32).toNatClampNeg (v6_52 + 1)) (fun gFo_14 => some (.inl (v6_52 + 1, gFo_14))))))))))
def f_Fo_addPoint (gFo : St) (p1 : Int32) (p2 : Int32) (p3 : Int32) (p4 : Int32) : Option ((Int32 × St) ⊕ String) := xc1 (f_Fo_placeOf gFo p1 p2) (fun r_1 => gb (inb r_1 32) (letb (gFo 3 (r_1 : Int32).toNatClampNeg) (fun x_4 => xc0 (f_Cc_requireRoom x_4 6) (letb ((r_1 * 6) + x_4) (fun x_6 => if x_4 = 0 then (f_Fo_addPoint_J52 gFo p3 p4 (-1) r_1 x_4 x_6) else (gb (inb (x_6 - 1) 192) (letb (gFo 4 (x_6 - 1 : Int32).toNatClampNeg) (fun x_17 => f_Fo_addPoint_J52 gFo p3 p4 x_17 r_1 x_4 x_6))))))))
def f_Cc_point (gGo : St) (gFo : St) (gPk : St) (qPk : Int64) (gSk : St) (gAi : St) (gSh : St) (gJo : St) (p1 : Int32) (p2 : Int32) (p3 : Int32) (p4 : Int32) : Option ((Int32 × St) ⊕ String) := xc2 (f_Fo_addPoint gFo p1 p2 p3 p4) (fun r_1 gFo_2 => some (.inl (r_1, gFo_2)))
def f_Ma_floorDiv (p1 : Int32) (p2 : Int32) : Option (Int32) := gb (nz p2) (letb (p1 / p2) (fun x_2 => if 0 ≤ p1 ^^^ p2 then (some (x_2)) else (if x_2 * p2 = p1 then (some (x_2)) else (some (x_2 - 1)))))
def f_Fo_valueBetween (gFo : St) (p1 : Int32) (p2 : Int32) (p3 : Int32) : Option (Int32) := gb (inb p2 192) (letb (gFo 4 (p2 : Int32).toNatClampNeg) (fun x_2 => gb (inb p1 192) (letb (gFo 4 (p1 : Int32).toNatClampNeg) (fun x_4 => letb (x_2 - x_4) (fun x_5 => if 1 ≤ x_5 then (gb (inb p1 192) (letb (gFo 5 (p1 : Int32).toNatClampNeg) (fun x_8 => gb (inb p2 192) (letb (gFo 5 (p2 : Int32).toNatClampNeg) (fun x_10 => letb (x_8 - x_10) (fun x_11 => gb (inb p1 192) (letb (gFo 5 (p1 : Int32).toNatClampNeg) (fun x_13 => gb (inb p1 192) (letb (gFo 4 (p1 : Int32).toNatClampNeg) (fun x_15 => xv1 (f_Ma_floorDiv (x_11 * (p3 - x_15)) x_5) (fun r_16 => some (x_13 - r_16)))))))))))) else (gb (inb p2 192) (letb (gFo 5 (p2 : Int32).toNatClampNeg) (fun x_19 => some (x_19)))))))))
def f_Fo_valueAt_X97 (v4_97 : Int32) (v5_97 : Int32) (v6_97 : Int32) (v7_97 : Int32) : Option ((Int32) ⊕ String) := some (.inl ((-1)))
def f_Fo_valueAt_L31 (gFo : St) (p3 : Int32) (kc_31 : Int32 → Int32 → Int32 → Int32 → Option ((Int32) ⊕ String)) (v4_31 : Int32) (v5_31 : Int32) (v6_31 : Int32) (v7_31 : Int32) : Option ((Int32) ⊕ String) := if v6_31 ≤ v7_31 then (f_Fo_valueAt_X97 v4_31 v5_31 v6_31 v7_31) else (gb (inb v7_31 192) (letb (gFo 4 (v7_31 : Int32).toNatClampNeg) (fun x_9 => if x_9 = p3 then (gb (inb v7_31 192) (letb (gFo 5 (v7_31 : Int32).toNatClampNeg) (fun x_19 => some (.inl (x_19))))) else (gb (inb v7_31 192) (letb (gFo 4 (v7_31 : Int32).toNatClampNeg) (fun x_12 => if x_12 ≤ p3 then (letb (v7_31 + 1) (fun x_14 => kc_31 v4_31 v5_31 v6_31 x_14)) else (if v7_31 = v5_31 then (some (.inl ((-1)))) else (xv1 (f_Fo_valueBetween gFo (v7_31 - 1) v7_31 p3) (fun r_16 => some (.inl (r_16)))))))))))
def f_Fo_valueAt (gFo : St) (p1 : Int32) (p2 : Int32) (p3 : Int32) : Option ((Int32) ⊕ String) := xc1 (f_Fo_placeOf gFo p1 p2) (fun r_1 => letb (r_1 * 6) (fun x_3 => gb (inb r_1 32) (letb (gFo 3 (r_1 : Int32).toNatClampNeg) (fun x_5 => letb (x_3 + x_5) (fun x_6 => it4 (f_Fo_valueAt_L31 gFo p3) FU r_1 x_3 x_6 x_3)))))
def f_Cc_value (gGo : St) (gFo : St) (gPk : St) (qPk : Int64) (gSk : St) (gAi : St) (gSh : St) (gJo : St) (p1 : Int32) (p2 : Int32) (p3 : Int32) : Option ((Int32) ⊕ String) := xc1 (f_Fo_valueAt gFo p1 p2 p3) (fun r_1 => some (.inl (r_1)))
def f_Fo_leastThickness_X74 (gFo : St) (p1 : Int32) (v4_74 : Int32) (v5_74 : Int32) (v6_74 : Int32) : Option ((Int32) ⊕ String) := if v4_74 ≤ v5_74 then (some (.inl ((-1)))) else (gb (inb ((p1 * 8) + v5_74) 32) (letb (gFo 2 ((p1 * 8) + v5_74 : Int32).toNatClampNeg) (fun x_6 => some (.inl (x_6)))))
def f_Fo_leastThickness_J71 (kc_20 : Int32 → Int32 → Int32 → Option ((Int32) ⊕ String)) (v4_71 : Int32) (v5_71 : Int32) (v6_71 : Int32) (v7_71 : Int32) (v8_71 : Int32) : Option ((Int32) ⊕ String) := kc_20 v4_71 v5_71 v6_71
def f_Fo_leastThickness_J65 (kc_20 : Int32 → Int32 → Int32 → Option ((Int32) ⊕ String)) (v4_65 : Int32) (v5_65 : Int32) (v6_65 : Int32) (v7_65 : Int32) (v8_65 : Int32) : Option ((Int32) ⊕ String) := letb (v7_65 + 1) (fun x_11 => f_Fo_leastThickness_J71 kc_20 v4_65 x_11 v6_65 v7_65 v8_65)
def f_Fo_leastThickness_L20 (gFo : St) (p1 : Int32) (p2 : Int32) (p3 : Int32) (kc_20 : Int32 → Int32 → Int32 → Option ((Int32) ⊕ String)) (v4_20 : Int32) (v5_20 : Int32) (v6_20 : Int32) : Option ((Int32) ⊕ String) := if v6_20 ≤ v5_20 then (f_Fo_leastThickness_X74 gFo p1 v4_20 v5_20 v6_20) else (letb ((v5_20 + v6_20) / 2) (fun x_8 => xc1 (f_Fo_valueAt gFo p1 x_8 p2) (fun r_9 => if r_9 = (-1) then (f_Fo_leastThickness_J65 kc_20 v4_20 v5_20 v6_20 x_8 r_9) else (if p3 < r_9 then (f_Fo_leastThickness_J65 kc_20 v4_20 v5_20 v6_20 x_8 r_9) else (f_Fo_leastThickness_J71 kc_20 v4_20 v5_20 x_8 x_8 r_9)))))
def f_Fo_leastThickness (gFo : St) (p1 : Int32) (p2 : Int32) (p3 : Int32) : Option ((Int32) ⊕ String) := xc0 (f_Cc_requireIndex p1 4) (gb (inb p1 4) (letb (gFo 1 (p1 : Int32).toNatClampNeg) (fun x_3 => it3 (f_Fo_leastThickness_L20 gFo p1 p2 p3) FU x_3 0 x_3)))
def f_Cc_thickness (gGo : St) (gFo : St) (gPk : St) (qPk : Int64) (gSk : St) (gAi : St) (gSh : St) (gJo : St) (p1 : Int32) (p2 : Int32) (p3 : Int32) : Option ((Int32) ⊕ String) := xc1 (f_Fo_leastThickness gFo p1 p2 p3) (fun r_1 => some (.inl (r_1)))
def f_Pk_isIn (p1 : Int32) (p2 : Int32) : Option (Int32) := if (p1 >>> (p2 &&& 31)) &&& 1 = 0 then (some (0)) else (some (1))
def f_Go_mayStandAnyhow (gGo : St) (p1 : Int32) : Option (Int32) := gb (inb p1 6) (letb (gGo 3 (p1 : Int32).toNatClampNeg) (fun x_2 => if x_2 = 63 then (some (0)) else (some (1))))
def f_Go_sizeOf (gGo : St) (p1 : Int32) (p2 : Int32) (p3 : Int32) : Option (Int32) := gb (inb ((p2 * 3) + p3) 18) (letb (wayT ((p2 * 3) + p3 : Int32).toNatClampNeg) (fun x_2 => gb (inb ((p1 * 3) + x_2) 18) (letb (gGo 1 ((p1 * 3) + x_2 : Int32).toNatClampNeg) (fun x_4 => some (x_4)))))
def f_Go_mayStand (gGo : St) (p1 : Int32) (p2 : Int32) : Option (Int32) := gb (inb p1 6) (letb (gGo 3 (p1 : Int32).toNatClampNeg) (fun x_2 => if (x_2 >>> (p2 &&& 31)) &&& 1 = 0 then (some (1)) else (some (0))))
def f_Go_shortestWay_X95 (v4_95 : Int32) (v5_95 : Int32) (v6_95 : Int32) : Option (Int32) := some (v4_95)
def f_Go_shortestWay_J89 (kc_11 : Int32 → Int32 → Int32 → Option (Int32)) (v4_89 : Int32) (v5_89 : Int32) (v6_89 : Int32) (v7_89 : Int32) (v8_89 : Int32) : Option (Int32) := letb (v6_89 + 1) (fun x_6 => kc_11 v4_89 v5_89 x_6)
def f_Go_shortestWay_J57 (gGo : St) (p1 : Int32) (kc_11 : Int32 → Int32 → Int32 → Option (Int32)) (s0_57 : Int32) (v4_57 : Int32) (v5_57 : Int32) (v6_57 : Int32) (v7_57 : Int32) : Option (Int32) := if s0_57 = 0 then (f_Go_shortestWay_J89 kc_11 v4_57 v5_57 v6_57 v7_57 s0_57) else (if v5_57 ≤ v7_57 then (f_Go_shortestWay_J89 kc_11 v4_57 v5_57 v6_57 v7_57 s0_57) else (xv1 (f_Go_mayStand gGo p1 v6_57) (fun r_9 => if r_9 = 0 then (f_Go_shortestWay_J89 kc_11 v4_57 v5_57 v6_57 v7_57 s0_57) else (f_Go_shortestWay_J89 kc_11 v6_57 v7_57 v6_57 v7_57 s0_57))))
def f_Go_shortestWay_J56 (gGo : St) (p1 : Int32) (kc_11 : Int32 → Int32 → Int32 → Option (Int32)) (v4_56 : Int32) (v5_56 : Int32) (v6_56 : Int32) (v7_56 : Int32) : Option (Int32) := f_Go_shortestWay_J57 gGo p1 kc_11 0 v4_56 v5_56 v6_56 v7_56
def f_Go_shortestWay_L11 (gGo : St) (p1 : Int32) (p2 : Int32) (p3 : Int32) (kc_11 : Int32 → Int32 → Int32 → Option (Int32)) (v4_11 : Int32) (v5_11 : Int32) (v6_11 : Int32) : Option (Int32) := if 6 ≤ v6_11 then (f_Go_shortestWay_X95 v4_11 v5_11 v6_11) else (xv1 (f_Go_sizeOf gGo p1 v6_11 0) (fun r_2 => xv1 (f_Go_sizeOf gGo p1 v6_11 1) (fun r_4 => if p2 < r_4 then (f_Go_shortestWay_J56 gGo p1 kc_11 v4_11 v5_11 v6_11 r_2) else (xv1 (f_Go_sizeOf gGo p1 v6_11 2) (fun r_13 => if p3 < r_13 then (f_Go_shortestWay_J56 gGo p1 kc_11 v4_11 v5_11 v6_11 r_2) else (f_Go_shortestWay_J57 gGo p1 kc_11 1 v4_11 v5_11 v6_11 r_2))))))
def f_Go_shortestWay (gGo : St) (p1 : Int32) (p2 : Int32) (p3 : Int32) : Option (Int32) := it3 (f_Go_shortestWay_L11 gGo p1 p2 p3) FU (-1) 201 0
def f_Pk_triedIsLower_X50 (v1_50 : Int32) : Option (Int32) := some (0)
def f_Pk_triedIsLower_L2 (gPk : St) (kc_2 : Int32 → Option (Int32)) (v1_2 : Int32) : Option (Int32) := if 6 ≤ v1_2 then (f_Pk_triedIsLower_X50 v1_2) else (gb (inb v1_2 6) (letb (gPk 4 (v1_2 : Int32).toNatClampNeg) (fun x_3 => gb (inb v1_2 6) (letb (gPk 2 (v1_2 : Int32).toNatClampNeg) (fun x_5 => if x_3 = x_5 then (letb (v1_2 + 1) (fun x_7 => kc_2 x_7)) else (gb (inb v1_2 6) (letb (gPk 4 (v1_2 : Int32).toNatClampNeg) (fun x_9 => gb (inb v1_2 6) (letb (gPk 2 (v1_2 : Int32).toNatClampNeg) (fun x_11 => if x_11 ≤ x_9 then (some (0)) else (some (1))))))))))))
def f_Pk_triedIsLower (gPk : St) (qPk : Int64) : Option (Int32) := it1 (f_Pk_triedIsLower_L2 gPk) FU 0
def f_Pk_keep (gPk : St) (qPk : Int64) (p1 : Int32) (p2 : Int32) (p3 : Int32) : Option (St) := letb (up2 gPk 1 (0 : Int32).toNatClampNeg p1) (fun gPk_1 => letb (up2 gPk_1 1 (1 : Int32).toNatClampNeg p2) (fun gPk_2 => letb (up2 gPk_2 1 (2 : Int32).toNatClampNeg p3) (fun gPk_3 => letb (upc gPk_3 2 (va_cpy (gPk_3 4) (gPk_3 2) (0 : Int32).toNatClampNeg (0 : Int32).toNatClampNeg (6 : Int32).toNatClampNeg)) (fun gPk_4 => some (gPk_4)))))
def f_Pk_tryWithin_J139 (p1 : Int32) (p2 : Int32) (v4_139 : Int32) (v5_139 : Int64) (gPk_139 : St) : Option (St × Int64) := letb (v5_139) (fun qPk_3 => xv1 (f_Pk_keep gPk_139 qPk_3 v4_139 (p1 + (2 * (gPk_139 0 6))) (p2 + (2 * (gPk_139 0 6)))) (fun gPk_4 => some (gPk_4, qPk_3)))
def f_Pk_tryWithin_X87 (qPk : Int64) (p1 : Int32) (p2 : Int32) (v4_87 : Int32) (v5_87 : Int32) (gPk_87 : St) : Option (St × Int64) := letb ((((v4_87 : Int32).toInt64) * ((p1 + (2 * (gPk_87 0 6)) : Int32).toInt64)) * ((p2 + (2 * (gPk_87 0 6)) : Int32).toInt64)) (fun x_2 => if lg_cmp x_2 qPk < 0 then (f_Pk_tryWithin_J139 p1 p2 v4_87 x_2 gPk_87) else (if lg_cmp x_2 qPk = 0 then (xv1 (f_Pk_triedIsLower gPk_87 qPk) (fun r_8 => if r_8 = 0 then (some (gPk_87, qPk)) else (f_Pk_tryWithin_J139 p1 p2 v4_87 x_2 gPk_87))) else (some (gPk_87, qPk))))
def f_Pk_tryWithin_J81 (kc_9 : Int32 → Int32 → St → Option (St × Int64)) (v4_81 : Int32) (v5_81 : Int32) (gPk_81 : St) : Option (St × Int64) := letb (v5_81 + 1) (fun x_16 => kc_9 v4_81 x_16 gPk_81)
def f_Pk_tryWithin_L9 (qPk : Int64) (gGo : St) (p1 : Int32) (p2 : Int32) (kc_9 : Int32 → Int32 → St → Option (St × Int64)) (v4_9 : Int32) (v5_9 : Int32) (gPk_9 : St) : Option (St × Int64) := if 6 ≤ v5_9 then (f_Pk_tryWithin_X87 qPk p1 p2 v4_9 v5_9 gPk_9) else (gb (inb v5_9 6) (letb (up2 gPk_9 4 (v5_9 : Int32).toNatClampNeg (-1)) (fun gPk_13 => xv1 (f_Pk_isIn (gPk_13 0 5) v5_9) (fun r_14 => if r_14 = 0 then (f_Pk_tryWithin_J81 kc_9 v4_9 v5_9 gPk_13) else (xv1 (f_Go_shortestWay gGo v5_9 p1 p2) (fun r_18 => if r_18 = (-1) then (some (gPk_13, qPk)) else (gb (inb v5_9 6) (letb (up2 gPk_13 4 (v5_9 : Int32).toNatClampNeg r_18) (fun gPk_22 => xv1 (f_Go_sizeOf gGo v5_9 r_18 0) (fun r_23 => letb (v4_9 + (r_23 + (gPk_22 0 6))) (fun x_25 => f_Pk_tryWithin_J81 kc_9 x_25 v5_9 gPk_22)))))))))))
def f_Pk_tryWithin (gPk : St) (qPk : Int64) (gGo : St) (p1 : Int32) (p2 : Int32) : Option (St × Int64) := letb (gPk 0 6) (fun x_1 => it3 (f_Pk_tryWithin_L9 qPk gGo p1 p2) FU x_1 0 gPk)
def f_Pk_findLeast_X87 (v2_87 : Int32) (v3_87 : Int32) (gPk_87 : St) (qPk_87 : Int64) : Option (St × Int64) := some (gPk_87, qPk_87)
def f_Pk_findLeast_X81 (kc_16 : Int32 → Int32 → St → Int64 → Option (St × Int64)) (v2_81 : Int32) (v3_81 : Int32) (v4_81 : Int32) (gPk_81 : St) (qPk_81 : Int64) : Option (St × Int64) := letb (v3_81 + 1) (fun x_4 => kc_16 v2_81 x_4 gPk_81 qPk_81)
def f_Pk_findLeast_J75 (kc_24 : Int32 → Int32 → Int32 → St → Int64 → Option (St × Int64)) (v2_75 : Int32) (v3_75 : Int32) (v4_75 : Int32) (gPk_75 : St) (qPk_75 : Int64) : Option (St × Int64) := letb (v4_75 + 1) (fun x_8 => kc_24 v2_75 v3_75 x_8 gPk_75 qPk_75)
def f_Pk_findLeast_L24 (gGo : St) (kc_16 : Int32 → Int32 → St → Int64 → Option (St × Int64)) (kc_24 : Int32 → Int32 → Int32 → St → Int64 → Option (St × Int64)) (v2_24 : Int32) (v3_24 : Int32) (v4_24 : Int32) (gPk_24 : St) (qPk_24 : Int64) : Option (St × Int64) := if v2_24 ≤ v4_24 then (f_Pk_findLeast_X81 kc_16 v2_24 v3_24 v4_24 gPk_24 qPk_24) else (xv1 (f_Pk_isIn (gPk_24 0 5) (v3_24 / 3)) (fun r_6 => if r_6 = 0 then (f_Pk_findLeast_J75 kc_24 v2_24 v3_24 v4_24 gPk_24 qPk_24) else (xv1 (f_Pk_isIn (gPk_24 0 5) (v4_24 / 3)) (fun r_10 => if r_10 = 0 then (f_Pk_findLeast_J75 kc_24 v2_24 v3_24 v4_24 gPk_24 qPk_24) else (gb (inb v3_24 18) (letb (gGo 1 (v3_24 : Int32).toNatClampNeg) (fun x_14 => gb (inb v4_24 18) (letb (gGo 1 (v4_24 : Int32).toNatClampNeg) (fun x_16 => xv2 (f_Pk_tryWithin gPk_24 qPk_24 gGo x_14 x_16) (fun gPk_17 qPk_18 => f_Pk_findLeast_J75 kc_24 v2_24 v3_24 v4_24 gPk_17 qPk_18))))))))))
def f_Pk_findLeast_L16 (gGo : St) (kc_16 : Int32 → Int32 → St → Int64 → Option (St × Int64)) (v2_16 : Int32) (v3_16 : Int32) (gPk_16 : St) (qPk_16 : Int64) : Option (St × Int64) := if v2_16 ≤ v3_16 then (f_Pk_findLeast_X87 v2_16 v3_16 gPk_16 qPk_16) else (it5 (f_Pk_findLeast_L24 gGo kc_16) FU v2_16 v3_16 0 gPk_16 qPk_16)
def f_Pk_findLeast (gPk : St) (qPk : Int64) (gGo : St) : Option (St × Int64) := letb (9223372036854775807) (fun qPk_1 => letb ((gGo 0 5) * 3) (fun x_2 => it4 (f_Pk_findLeast_L16 gGo) FU x_2 0 gPk qPk_1))
def f_Pk_placeInRow_X66 (v2_66 : Int32) (v3_66 : Int32) (gPk_66 : St) : Option (St) := some (gPk_66)
def f_Pk_placeInRow_J60 (kc_7 : Int32 → Int32 → St → Option (St)) (v2_60 : Int32) (v3_60 : Int32) (gPk_60 : St) : Option (St) := letb (v3_60 + 1) (fun x_5 => kc_7 v2_60 x_5 gPk_60)
def f_Pk_placeInRow_L7 (gGo : St) (kc_7 : Int32 → Int32 → St → Option (St)) (v2_7 : Int32) (v3_7 : Int32) (gPk_7 : St) : Option (St) := if 6 ≤ v3_7 then (f_Pk_placeInRow_X66 v2_7 v3_7 gPk_7) else (gb (inb v3_7 6) (letb (gPk_7 2 (v3_7 : Int32).toNatClampNeg) (fun x_4 => if x_4 = (-1) then (gb (inb v3_7 6) (letb (up2 gPk_7 3 (v3_7 : Int32).toNatClampNeg (-1)) (fun gPk_15 => f_Pk_placeInRow_J60 kc_7 v2_7 v3_7 gPk_15))) else (gb (inb v3_7 6) (letb (up2 gPk_7 3 (v3_7 : Int32).toNatClampNeg v2_7) (fun gPk_8 => gb (inb v3_7 6) (letb (gPk_8 2 (v3_7 : Int32).toNatClampNeg) (fun x_10 => xv1 (f_Go_sizeOf gGo v3_7 x_10 0) (fun r_11 => letb (v2_7 + (r_11 + (gPk_8 0 6))) (fun x_13 => f_Pk_placeInRow_J60 kc_7 x_13 v3_7 gPk_8))))))))))
def f_Pk_placeInRow (gPk : St) (qPk : Int64) (gGo : St) : Option (St) := letb (gPk 0 6) (fun x_1 => it3 (f_Pk_placeInRow_L7 gGo) FU x_1 0 gPk)
def f_In_bitCount (p1 : Int32) : Option (Int32) := letb (p1 - ((((p1 : Int32).toUInt32 >>> ((1 : Int32).toUInt32 &&& Int32.toUInt32 31)).toInt32) &&& 1431655765)) (fun x_1 => letb ((x_1 &&& 858993459) + ((((x_1 : Int32).toUInt32 >>> ((2 : Int32).toUInt32 &&& Int32.toUInt32 31)).toInt32) &&& 858993459)) (fun x_2 => letb ((x_2 + (((x_2 : Int32).toUInt32 >>> ((4 : Int32).toUInt32 &&& Int32.toUInt32 31)).toInt32)) &&& 252645135) (fun x_3 => letb (x_3 + (((x_3 : Int32).toUInt32 >>> ((8 : Int32).toUInt32 &&& Int32.toUInt32 31)).toInt32)) (fun x_4 => letb (x_4 + (((x_4 : Int32).toUInt32 >>> ((16 : Int32).toUInt32 &&& Int32.toUInt32 31)).toInt32)) (fun x_5 => some (x_5 &&& 63))))))
def f_Pk_packSet_X78 (gPk : St) (qPk : Int64) (gGo : St) (p1 : Int32) (p2 : Int32) (v4_78 : Int32) : Option ((Int32 × St × Int64) ⊕ String) := letb (up2 gPk 0 5 p1) (fun gPk_4 => letb (up2 gPk_4 0 6 p2) (fun gPk_5 => xv2 (f_Pk_findLeast gPk_5 qPk gGo) (fun gPk_6 qPk_7 => xv1 (f_Pk_placeInRow gPk_6 qPk_7 gGo) (fun gPk_9 => letb (up2 gPk_9 0 4 1) (fun gPk_11 => xv1 (f_In_bitCount p1) (fun r_12 => some (.inl (r_12, gPk_11, qPk_7))))))))
def f_Pk_packSet_J72 (kc_43 : Int32 → Option ((Int32 × St × Int64) ⊕ String)) (v4_72 : Int32) : Option ((Int32 × St × Int64) ⊕ String) := letb (v4_72 + 1) (fun x_17 => kc_43 x_17)
def f_Pk_packSet_L43 (gPk : St) (qPk : Int64) (gGo : St) (p1 : Int32) (p2 : Int32) (kc_43 : Int32 → Option ((Int32 × St × Int64) ⊕ String)) (v4_43 : Int32) : Option ((Int32 × St × Int64) ⊕ String) := if gGo 0 5 ≤ v4_43 then (f_Pk_packSet_X78 gPk qPk gGo p1 p2 v4_43) else (xv1 (f_Pk_isIn p1 v4_43) (fun r_15 => if r_15 = 0 then (f_Pk_packSet_J72 kc_43 v4_43) else (xv1 (f_Go_mayStandAnyhow gGo v4_43) (fun r_19 => if r_19 = 0 then (some (.inl ((-1), gPk, qPk))) else (f_Pk_packSet_J72 kc_43 v4_43)))))
def f_Pk_packSet (gPk : St) (qPk : Int64) (gGo : St) (p1 : Int32) (p2 : Int32) : Option ((Int32 × St × Int64) ⊕ String) := if p1 >>> ((gGo 0 5) &&& 31) = 0 then (if p1 = 0 then (some (.inr "java/lang/IllegalArgumentException")) else (xc0 (f_Cc_requireRange p2 0 20) (it1 (f_Pk_packSet_L43 gPk qPk gGo p1 p2) FU 0))) else (some (.inr "java/lang/IndexOutOfBoundsException"))
def f_Cc_pack (gGo : St) (gFo : St) (gPk : St) (qPk : Int64) (gSk : St) (gAi : St) (gSh : St) (gJo : St) (p1 : Int32) (p2 : Int32) : Option ((Int32 × St × Int64) ⊕ String) := xc3 (f_Pk_packSet gPk qPk gGo p1 p2) (fun r_1 gPk_2 qPk_3 => some (.inl (r_1, gPk_2, qPk_3)))
def f_Pk_requirePacked (gPk : St) (qPk : Int64) : Option ((Unit) ⊕ String) := if gPk 0 4 = 0 then (some (.inr "java/lang/IllegalStateException")) else (some (.inl ()))
def f_Pk_sizeAlong (gPk : St) (qPk : Int64) (p1 : Int32) : Option ((Int32) ⊕ String) := xc0 (f_Cc_requireIndex p1 3) (xc0 (f_Pk_requirePacked gPk qPk) (gb (inb p1 3) (letb (gPk 1 (p1 : Int32).toNatClampNeg) (fun x_4 => some (.inl (x_4))))))
def f_Cc_size (gGo : St) (gFo : St) (gPk : St) (qPk : Int64) (gSk : St) (gAi : St) (gSh : St) (gJo : St) (p1 : Int32) : Option ((Int32) ⊕ String) := xc1 (f_Pk_sizeAlong gPk qPk p1) (fun r_1 => some (.inl (r_1)))
def f_Pk_tell_J25 (gPk : St) (qPk : Int64) (p1 : Int32) (p2 : Int32) : Option ((Int32) ⊕ String) := xc0 (f_Pk_requirePacked gPk qPk) (if p2 = (-1) then (gb (inb p1 6) (letb (gPk 2 (p1 : Int32).toNatClampNeg) (fun x_7 => some (.inl (x_7))))) else (gb (inb p1 6) (letb (gPk 3 (p1 : Int32).toNatClampNeg) (fun x_5 => some (.inl (x_5))))))
def f_Pk_tell (gPk : St) (qPk : Int64) (p1 : Int32) (p2 : Int32) : Option ((Int32) ⊕ String) := xc0 (f_Cc_requireIndex p1 6) (if p2 = (-1) then (f_Pk_tell_J25 gPk qPk p1 p2) else (if p2 = 0 then (f_Pk_tell_J25 gPk qPk p1 p2) else (some (.inr "java/lang/IndexOutOfBoundsException"))))
def f_Cc_at (gGo : St) (gFo : St) (gPk : St) (qPk : Int64) (gSk : St) (gAi : St) (gSh : St) (gJo : St) (p1 : Int32) (p2 : Int32) : Option ((Int32) ⊕ String) := xc0 (f_Cc_requireIndex p1 (gGo 0 5)) (xc1 (f_Pk_tell gPk qPk p1 p2) (fun r_2 => some (.inl (r_2))))
def f_Sk_add (gSk : St) (p1 : Int32) (p2 : Int32) (p3 : Int32) : Option ((Int32 × St) ⊕ String) := xc0 (f_Cc_requireRoom (gSk 0 4) 10) (xc0 (f_Cc_requireRange p1 1 2000) (xc0 (f_Cc_requireRange p2 1 2000) (xc0 (f_Cc_requireRange p3 1 2000) (gb (inb (gSk 0 4) 10) (letb (up2 gSk 1 (gSk 0 4 : Int32).toNatClampNeg p1) (fun gSk_6 => gb (inb (gSk_6 0 4) 10) (letb (up2 gSk_6 2 (gSk_6 0 4 : Int32).toNatClampNeg p2) (fun gSk_8 => gb (inb (gSk_8 0 4) 10) (letb (up2 gSk_8 3 (gSk_8 0 4 : Int32).toNatClampNeg p3) (fun gSk_10 => letb (up2 gSk_10 0 4 ((gSk_10 0 4) + 1)) (fun gSk_11 => some (.inl ((gSk_11 0 4) - 1, gSk_11)))))))))))))
def f_Cc_crate (gGo : St) (gFo : St) (gPk : St) (qPk : Int64) (gSk : St) (gAi : St) (gSh : St) (gJo : St) (p1 : Int32) (p2 : Int32) (p3 : Int32) : Option ((Int32 × St) ⊕ String) := xc2 (f_Sk_add gSk p1 p2 p3) (fun r_1 gSk_2 => some (.inl (r_1, gSk_2)))
def f_Sk_hasRoom_J75 (v5_75 : Int32) (v6_75 : Int32) : Option (Int32) := some (1)
def f_Sk_hasRoom_J52 (gSk : St) (p1 : Int32) (p4 : Int32) (s0_52 : Int32) (v5_52 : Int32) : Option (Int32) := gb (inb p1 10) (letb (gSk 3 (p1 : Int32).toNatClampNeg) (fun x_6 => if x_6 < p4 then (some (0)) else (if v5_52 = 0 then (if s0_52 = 0 then (some (0)) else (f_Sk_hasRoom_J75 v5_52 s0_52)) else (f_Sk_hasRoom_J75 v5_52 s0_52))))
def f_Sk_hasRoom_J51 (gSk : St) (p1 : Int32) (p4 : Int32) (v5_51 : Int32) : Option (Int32) := f_Sk_hasRoom_J52 gSk p1 p4 0 v5_51
def f_Sk_hasRoom_J25 (gSk : St) (p1 : Int32) (p2 : Int32) (p3 : Int32) (p4 : Int32) (s0_25 : Int32) : Option (Int32) := gb (inb p1 10) (letb (gSk 1 (p1 : Int32).toNatClampNeg) (fun x_4 => if x_4 < p3 then (f_Sk_hasRoom_J51 gSk p1 p4 s0_25) else (gb (inb p1 10) (letb (gSk 2 (p1 : Int32).toNatClampNeg) (fun x_12 => if x_12 < p2 then (f_Sk_hasRoom_J51 gSk p1 p4 s0_25) else (f_Sk_hasRoom_J52 gSk p1 p4 1 s0_25))))))
def f_Sk_hasRoom_J24 (gSk : St) (p1 : Int32) (p2 : Int32) (p3 : Int32) (p4 : Int32) : Option (Int32) := f_Sk_hasRoom_J25 gSk p1 p2 p3 p4 0
def f_Sk_hasRoom (gSk : St) (p1 : Int32) (p2 : Int32) (p3 : Int32) (p4 : Int32) : Option (Int32) := gb (inb p1 10) (letb (gSk 1 (p1 : Int32).toNatClampNeg) (fun x_2 => if x_2 < p2 then (f_Sk_hasRoom_J24 gSk p1 p2 p3 p4) else (gb (inb p1 10) (letb (gSk 2 (p1 : Int32).toNatClampNeg) (fun x_16 => if x_16 < p3 then (f_Sk_hasRoom_J24 gSk p1 p2 p3 p4) else (f_Sk_hasRoom_J25 gSk p1 p2 p3 p4 1))))))
def f_Sk_takeFor_X92 (gSk : St) (v4_92 : Int32) (v5_92 : Int64) (v7_92 : Int32) : Option (Int32 × St) := if v4_92 = (-1) then (some (v4_92, gSk)) else (gb (inb v4_92 10) (letb (up2 gSk 4 (v4_92 : Int32).toNatClampNeg (vp_nar .boolean 1)) (fun gSk_3 => some (v4_92, gSk_3))))
def f_Sk_takeFor_J86 (kc_11 : Int32 → Int64 → Int32 → Option (Int32 × St)) (v4_86 : Int32) (v5_86 : Int64) (v7_86 : Int32) (v8_86 : Int64) : Option (Int32 × St) := letb (v7_86 + 1) (fun x_14 => kc_11 v4_86 v5_86 x_14)
def f_Sk_takeFor_L11 (gSk : St) (p1 : Int32) (p2 : Int32) (p3 : Int32) (kc_11 : Int32 → Int64 → Int32 → Option (Int32 × St)) (v4_11 : Int32) (v5_11 : Int64) (v7_11 : Int32) : Option (Int32 × St) := if gSk 0 4 ≤ v7_11 then (f_Sk_takeFor_X92 gSk v4_11 v5_11 v7_11) else (gb (inb v7_11 10) (letb (gSk 1 (v7_11 : Int32).toNatClampNeg) (fun x_6 => gb (inb v7_11 10) (letb (gSk 2 (v7_11 : Int32).toNatClampNeg) (fun x_8 => gb (inb v7_11 10) (letb (gSk 3 (v7_11 : Int32).toNatClampNeg) (fun x_10 => letb ((((x_6 : Int32).toInt64) * ((x_8 : Int32).toInt64)) * ((x_10 : Int32).toInt64)) (fun x_11 => gb (inb v7_11 10) (letb (gSk 4 (v7_11 : Int32).toNatClampNeg) (fun x_13 => if x_13 = 0 then (xv1 (f_Sk_hasRoom gSk v7_11 p1 p2 p3) (fun r_16 => if r_16 = 0 then (f_Sk_takeFor_J86 kc_11 v4_11 v5_11 v7_11 x_11) else (if 0 ≤ lg_cmp x_11 v5_11 then (f_Sk_takeFor_J86 kc_11 v4_11 v5_11 v7_11 x_11) else (f_Sk_takeFor_J86 kc_11 v7_11 x_11 v7_11 x_11)))) else (f_Sk_takeFor_J86 kc_11 v4_11 v5_11 v7_11 x_11)))))))))))
def f_Sk_takeFor (gSk : St) (p1 : Int32) (p2 : Int32) (p3 : Int32) : Option (Int32 × St) := it3 (f_Sk_takeFor_L11 gSk p1 p2 p3) FU (-1) 9223372036854775807 0
def f_Cc_match (gGo : St) (gFo : St) (gPk : St) (qPk : Int64) (gSk : St) (gAi : St) (gSh : St) (gJo : St) : Option ((Int32 × St) ⊕ String) := xc1 (f_Pk_sizeAlong gPk qPk 0) (fun r_1 => xc1 (f_Pk_sizeAlong gPk qPk 1) (fun r_3 => xc1 (f_Pk_sizeAlong gPk qPk 2) (fun r_5 => xv2 (f_Sk_takeFor gSk r_1 r_3 r_5) (fun r_7 gSk_8 => some (.inl (r_7, gSk_8))))))
def f_Sk_release (gSk : St) (p1 : Int32) : Option ((Int32 × St) ⊕ String) := xc0 (f_Cc_requireIndex p1 (gSk 0 4)) (gb (inb p1 10) (letb (gSk 4 (p1 : Int32).toNatClampNeg) (fun x_3 => gb (inb p1 10) (letb (up2 gSk 4 (p1 : Int32).toNatClampNeg (vp_nar .boolean 0)) (fun gSk_5 => gb (isb x_3) (some (.inl (x_3, gSk_5))))))))
def f_Cc_free (gGo : St) (gFo : St) (gPk : St) (qPk : Int64) (gSk : St) (gAi : St) (gSh : St) (gJo : St) (p1 : Int32) : Option ((Int32 × St) ⊕ String) := xc2 (f_Sk_release gSk p1) (fun r_1 gSk_2 => gb (isb r_1) (some (.inl (r_1, gSk_2))))
def f_Go_partSet_X154 (gGo : St) (p1 : Int32) (v3_154 : Int32) (v4_154 : Int32) (v5_154 : Int32) : Option (St) := gb (inb p1 64) (letb (up2 gGo 4 (p1 : Int32).toNatClampNeg v3_154) (fun gGo_2 => gb (inb p1 64) (letb (up2 gGo_2 5 (p1 : Int32).toNatClampNeg v4_154) (fun gGo_4 => some (gGo_4)))))
def f_Go_partSet_J148 (kc_9 : Int32 → Int32 → Int32 → Option (St)) (v3_148 : Int32) (v4_148 : Int32) (v5_148 : Int32) : Option (St) := letb (v5_148 + 1) (fun x_6 => kc_9 v3_148 v4_148 x_6)
def f_Go_partSet_J141 (kc_9 : Int32 → Int32 → Int32 → Option (St)) (v3_141 : Int32) (v4_141 : Int32) (v5_141 : Int32) (v6_141 : Int32) (v7_141 : Int32) (v8_141 : Int32) (v9_141 : Int32) : Option (St) := f_Go_partSet_J148 kc_9 v8_141 v9_141 v5_141
def f_Go_partSet_J120 (kc_9 : Int32 → Int32 → Int32 → Option (St)) (s0_120 : Int32) (v3_120 : Int32) (v4_120 : Int32) (v5_120 : Int32) (v6_120 : Int32) (v7_120 : Int32) (v8_120 : Int32) : Option (St) := if v8_120 < v3_120 then (f_Go_partSet_J141 kc_9 v3_120 v4_120 v5_120 v6_120 v7_120 v8_120 s0_120) else (if v8_120 = v3_120 then (if v4_120 ≤ s0_120 then (f_Go_partSet_J148 kc_9 v3_120 v4_120 v5_120) else (f_Go_partSet_J141 kc_9 v3_120 v4_120 v5_120 v6_120 v7_120 v8_120 s0_120)) else (f_Go_partSet_J148 kc_9 v3_120 v4_120 v5_120))
def f_Go_partSet_J88 (gGo : St) (kc_9 : Int32 → Int32 → Int32 → Option (St)) (s0_88 : Int32) (v3_88 : Int32) (v4_88 : Int32) (v5_88 : Int32) (v6_88 : Int32) (v7_88 : Int32) : Option (St) := if v7_88 = 0 then (gb (inb v5_88 6) (letb (gGo 2 (v5_88 : Int32).toNatClampNeg) (fun x_18 => f_Go_partSet_J120 kc_9 x_18 v3_88 v4_88 v5_88 v6_88 v7_88 s0_88))) else (gb (inb v6_88 64) (letb (gGo 5 (v6_88 : Int32).toNatClampNeg) (fun x_20 => gb (inb v5_88 6) (letb (gGo 2 (v5_88 : Int32).toNatClampNeg) (fun x_22 => f_Go_partSet_J120 kc_9 (x_20 + x_22) v3_88 v4_88 v5_88 v6_88 v7_88 s0_88)))))
def f_Go_partSet_J62 (gGo : St) (kc_9 : Int32 → Int32 → Int32 → Option (St)) (s0_62 : Int32) (v3_62 : Int32) (v4_62 : Int32) (v5_62 : Int32) (v6_62 : Int32) : Option (St) := if s0_62 = 0 then (gb (inb v6_62 64) (letb (gGo 4 (v6_62 : Int32).toNatClampNeg) (fun x_25 => f_Go_partSet_J88 gGo kc_9 (x_25 + 1) v3_62 v4_62 v5_62 v6_62 s0_62))) else (gb (inb v6_62 64) (letb (gGo 4 (v6_62 : Int32).toNatClampNeg) (fun x_27 => f_Go_partSet_J88 gGo kc_9 x_27 v3_62 v4_62 v5_62 v6_62 s0_62)))
def f_Go_partSet_L9 (gGo : St) (p1 : Int32) (p2 : Int32) (kc_9 : Int32 → Int32 → Int32 → Option (St)) (v3_9 : Int32) (v4_9 : Int32) (v5_9 : Int32) : Option (St) := if gGo 0 5 ≤ v5_9 then (f_Go_partSet_X154 gGo p1 v3_9 v4_9 v5_9) else (if (p1 >>> (v5_9 &&& 31)) &&& 1 = 0 then (f_Go_partSet_J148 kc_9 v3_9 v4_9 v5_9) else (letb (p1 ^^^ (1 <<< (v5_9 &&& 31))) (fun x_8 => gb (inb v5_9 6) (letb (gGo 2 (v5_9 : Int32).toNatClampNeg) (fun x_10 => gb (inb x_8 64) (letb (gGo 5 (x_8 : Int32).toNatClampNeg) (fun x_12 => if p2 - x_12 < x_10 then (f_Go_partSet_J62 gGo kc_9 0 v3_9 v4_9 v5_9 x_8) else (f_Go_partSet_J62 gGo kc_9 1 v3_9 v4_9 v5_9 x_8))))))))
def f_Go_partSet (gGo : St) (p1 : Int32) (p2 : Int32) : Option (St) := it3 (f_Go_partSet_L9 gGo p1 p2) FU 7 0 0
def f_Go_leastCrates_X83 (v2_83 : Int32) (v3_83 : Int32) (gGo_83 : St) : Option ((Int32 × St) ⊕ String) := gb (inb (v2_83 - 1) 64) (letb (gGo_83 4 (v2_83 - 1 : Int32).toNatClampNeg) (fun x_6 => some (.inl (x_6, gGo_83))))
def f_Go_leastCrates_L66 (p1 : Int32) (kc_66 : Int32 → Int32 → St → Option ((Int32 × St) ⊕ String)) (v2_66 : Int32) (v3_66 : Int32) (gGo_66 : St) : Option ((Int32 × St) ⊕ String) := if v2_66 ≤ v3_66 then (f_Go_leastCrates_X83 v2_66 v3_66 gGo_66) else (xv1 (f_Go_partSet gGo_66 v3_66 p1) (fun gGo_8 => letb (v3_66 + 1) (fun x_10 => kc_66 v2_66 x_10 gGo_8)))
def f_Go_leastCrates_X43 (gGo : St) (p1 : Int32) (v2_43 : Int32) : Option ((Int32 × St) ⊕ String) := letb (up2 gGo 4 (0 : Int32).toNatClampNeg 0) (fun gGo_2 => letb (up2 gGo_2 5 (0 : Int32).toNatClampNeg p1) (fun gGo_3 => letb (1 <<< ((gGo_3 0 5) &&& 31)) (fun x_4 => it3 (f_Go_leastCrates_L66 p1) FU x_4 1 gGo_3)))
def f_Go_leastCrates_L17 (gGo : St) (p1 : Int32) (kc_17 : Int32 → Option ((Int32 × St) ⊕ String)) (v2_17 : Int32) : Option ((Int32 × St) ⊕ String) := if gGo 0 5 ≤ v2_17 then (f_Go_leastCrates_X43 gGo p1 v2_17) else (gb (inb v2_17 6) (letb (gGo 2 (v2_17 : Int32).toNatClampNeg) (fun x_13 => if x_13 ≤ p1 then (letb (v2_17 + 1) (fun x_15 => kc_17 x_15)) else (some (.inl ((-1), gGo))))))
def f_Go_leastCrates (gGo : St) (p1 : Int32) : Option ((Int32 × St) ⊕ String) := if 1 ≤ p1 then (it1 (f_Go_leastCrates_L17 gGo p1) FU 0) else (some (.inr "java/lang/IllegalArgumentException"))
def f_Cc_split (gGo : St) (gFo : St) (gPk : St) (qPk : Int64) (gSk : St) (gAi : St) (gSh : St) (gJo : St) (p1 : Int32) : Option ((Int32 × St) ⊕ String) := xc2 (f_Go_leastCrates gGo p1) (fun r_1 gGo_2 => some (.inl (r_1, gGo_2)))
def f_Ai_setLag (gAi : St) (p1 : Int32) : Option ((Int32 × St) ⊕ String) := xc0 (f_Cc_requireRange p1 1 100) (letb (gAi 0 2) (fun x_2 => letb (up2 gAi 0 2 p1) (fun gAi_3 => some (.inl (x_2, gAi_3)))))
def f_Cc_lag (gGo : St) (gFo : St) (gPk : St) (qPk : Int64) (gSk : St) (gAi : St) (gSh : St) (gJo : St) (p1 : Int32) : Option ((Int32 × St) ⊕ String) := xc2 (f_Ai_setLag gAi p1) (fun r_1 gAi_2 => some (.inl (r_1, gAi_2)))
def f_Ma_max (p1 : Int32) (p2 : Int32) : Option (Int32) := if p1 < p2 then (some (p2)) else (some (p1))
def f_Ai_nextHour_J42 (gAi : St) (p1 : Int32) (s0_42 : Int32) : Option ((Int32 × St) ⊕ String) := xv1 (f_Ma_max (gAi 0 2) 1) (fun r_3 => xv1 (f_Ma_floorDiv ((p1 * 1000) - s0_42) r_3) (fun r_5 => gb (inb (gAi 0 1) 200) (letb (up2 gAi 1 (gAi 0 1 : Int32).toNatClampNeg (s0_42 + r_5)) (fun gAi_8 => letb (up2 gAi_8 0 1 ((gAi_8 0 1) + 1)) (fun gAi_9 => some (.inl (s0_42 + r_5, gAi_9)))))))
def f_Ai_nextHour (gAi : St) (p1 : Int32) : Option ((Int32 × St) ⊕ String) := xc0 (f_Cc_requireRoom (gAi 0 1) 200) (xc0 (f_Cc_requireRange p1 (-60) 60) (if gAi 0 1 = 0 then (f_Ai_nextHour_J42 gAi p1 20000) else (gb (inb ((gAi 0 1) - 1) 200) (letb (gAi 1 ((gAi 0 1) - 1 : Int32).toNatClampNeg) (fun x_12 => f_Ai_nextHour_J42 gAi p1 x_12)))))
def f_Cc_climate (gGo : St) (gFo : St) (gPk : St) (qPk : Int64) (gSk : St) (gAi : St) (gSh : St) (gJo : St) (p1 : Int32) : Option ((Int32 × St) ⊕ String) := xc2 (f_Ai_nextHour gAi p1) (fun r_1 gAi_2 => some (.inl (r_1, gAi_2)))
def f_Ai_afterHour (gAi : St) (p1 : Int32) : Option ((Int32) ⊕ String) := xc0 (f_Cc_requireIndex p1 (gAi 0 1)) (gb (inb p1 200) (letb (gAi 1 (p1 : Int32).toNatClampNeg) (fun x_3 => some (.inl (x_3)))))
def f_Cc_inside (gGo : St) (gFo : St) (gPk : St) (qPk : Int64) (gSk : St) (gAi : St) (gSh : St) (gJo : St) (p1 : Int32) : Option ((Int32) ⊕ String) := xc1 (f_Ai_afterHour gAi p1) (fun r_1 => some (.inl (r_1)))
def f_Ai_longestWithin_X89 (v3_89 : Int32) (v4_89 : Int32) (v5_89 : Int32) : Option ((Int32) ⊕ String) := some (.inl (v3_89))
def f_Ai_longestWithin_J74 (kc_23 : Int32 → Int32 → Int32 → Option ((Int32) ⊕ String)) (s0_74 : Int32) (v3_74 : Int32) (v4_74 : Int32) (v5_74 : Int32) (v6_74 : Int32) : Option ((Int32) ⊕ String) := xv1 (f_Ma_max v3_74 s0_74) (fun r_5 => letb (v5_74 + 1) (fun x_7 => kc_23 r_5 s0_74 x_7))
def f_Ai_longestWithin_J59 (kc_23 : Int32 → Int32 → Int32 → Option ((Int32) ⊕ String)) (s0_59 : Int32) (v3_59 : Int32) (v4_59 : Int32) (v5_59 : Int32) : Option ((Int32) ⊕ String) := if s0_59 = 0 then (f_Ai_longestWithin_J74 kc_23 0 v3_59 v4_59 v5_59 s0_59) else (f_Ai_longestWithin_J74 kc_23 (v4_59 + 1) v3_59 v4_59 v5_59 s0_59)
def f_Ai_longestWithin_J58 (kc_23 : Int32 → Int32 → Int32 → Option ((Int32) ⊕ String)) (v3_58 : Int32) (v4_58 : Int32) (v5_58 : Int32) : Option ((Int32) ⊕ String) := f_Ai_longestWithin_J59 kc_23 0 v3_58 v4_58 v5_58
def f_Ai_longestWithin_L23 (gAi : St) (p1 : Int32) (p2 : Int32) (kc_23 : Int32 → Int32 → Int32 → Option ((Int32) ⊕ String)) (v3_23 : Int32) (v4_23 : Int32) (v5_23 : Int32) : Option ((Int32) ⊕ String) := if gAi 0 1 ≤ v5_23 then (f_Ai_longestWithin_X89 v3_23 v4_23 v5_23) else (gb (inb v5_23 200) (letb (gAi 1 (v5_23 : Int32).toNatClampNeg) (fun x_4 => if x_4 < p1 then (f_Ai_longestWithin_J58 kc_23 v3_23 v4_23 v5_23) else (gb (inb v5_23 200) (letb (gAi 1 (v5_23 : Int32).toNatClampNeg) (fun x_11 => if p2 < x_11 then (f_Ai_longestWithin_J58 kc_23 v3_23 v4_23 v5_23) else (f_Ai_longestWithin_J59 kc_23 1 v3_23 v4_23 v5_23)))))))
def f_Ai_longestWithin (gAi : St) (p1 : Int32) (p2 : Int32) : Option ((Int32) ⊕ String) := if p1 ≤ p2 then (it3 (f_Ai_longestWithin_L23 gAi p1 p2) FU 0 0 0) else (some (.inr "java/lang/IllegalArgumentException"))
def f_Cc_steady (gGo : St) (gFo : St) (gPk : St) (qPk : Int64) (gSk : St) (gAi : St) (gSh : St) (gJo : St) (p1 : Int32) (p2 : Int32) : Option ((Int32) ⊕ String) := xc1 (f_Ai_longestWithin gAi p1 p2) (fun r_1 => some (.inl (r_1)))
def f_Sh_allow (gSh : St) (p1 : Int32) (p2 : Int32) : Option ((St) ⊕ String) := xc0 (f_Cc_requireRange p1 1 10000) (xc0 (f_Cc_requireRange p2 1 10000) (letb (up2 gSh 0 0 p1) (fun gSh_3 => letb (up2 gSh_3 0 1 p2) (fun gSh_4 => some (.inl (gSh_4))))))
def f_Cc_limit (gGo : St) (gFo : St) (gPk : St) (qPk : Int64) (gSk : St) (gAi : St) (gSh : St) (gJo : St) (p1 : Int32) (p2 : Int32) : Option ((St) ⊕ String) := xc1 (f_Sh_allow gSh p1 p2) (fun gSh_1 => some (.inl (gSh_1)))
def f_Sh_add_J47 (gSh : St) (s0_47 : Int32) : Option ((Int32 × St) ⊕ String) := letb (up2 gSh 0 2 ((gSh 0 2) + 1)) (fun gSh_3 => if s0_47 = 0 then (gb (isb s0_47) (some (.inl (s0_47, gSh_3)))) else (letb (up2 gSh_3 0 3 ((gSh_3 0 3) + 1)) (fun gSh_6 => gb (isb s0_47) (some (.inl (s0_47, gSh_6))))))
def f_Sh_add_J42 (gSh : St) : Option ((Int32 × St) ⊕ String) := f_Sh_add_J47 gSh 1
def f_Sh_add_J46 (gSh : St) : Option ((Int32 × St) ⊕ String) := f_Sh_add_J47 gSh 0
def f_Sh_add (gSh : St) (p1 : Int32) (p2 : Int32) : Option ((Int32 × St) ⊕ String) := xc0 (f_Cc_requireRange p1 0 10000) (xc0 (f_Cc_requireRange p2 0 10000) (if gSh 0 0 < p1 then (f_Sh_add_J42 gSh) else (if p1 ≤ (gSh 0 0) / 2 then (f_Sh_add_J46 gSh) else (if p2 ≤ gSh 0 1 then (f_Sh_add_J46 gSh) else (f_Sh_add_J42 gSh)))))
def f_Cc_shock (gGo : St) (gFo : St) (gPk : St) (qPk : Int64) (gSk : St) (gAi : St) (gSh : St) (gJo : St) (p1 : Int32) (p2 : Int32) : Option ((Int32 × St) ⊕ String) := xc2 (f_Sh_add gSh p1 p2) (fun r_1 gSh_2 => gb (isb r_1) (some (.inl (r_1, gSh_2))))
def f_Jo_plan_X71 (p2 : Int32) (v3_71 : Int32) (v4_71 : Int32) (v5_71 : Int32) (gJo_71 : St) : Option ((Int32 × St) ⊕ String) := letb (up2 gJo_71 0 1 p2) (fun gJo_3 => some (.inl (v4_71, gJo_3)))
def f_Jo_plan_L22 (p2 : Int32) (kc_22 : Int32 → Int32 → Int32 → St → Option ((Int32 × St) ⊕ String)) (v3_22 : Int32) (v4_22 : Int32) (v5_22 : Int32) (gJo_22 : St) : Option ((Int32 × St) ⊕ String) := if p2 ≤ v5_22 then (f_Jo_plan_X71 p2 v3_22 v4_22 v5_22 gJo_22) else (letb (((v3_22 * 75) + 74) - ((v3_22 * 75) + 74) / 65537 * 65537) (fun x_5 => gb (inb v5_22 50) (letb (up2 gJo_22 1 (v5_22 : Int32).toNatClampNeg (10 + (x_5 - x_5 / 91 * 91))) (fun gJo_7 => gb (inb v5_22 50) (letb (gJo_7 1 (v5_22 : Int32).toNatClampNeg) (fun x_9 => letb (v4_22 + x_9) (fun x_10 => letb (v5_22 + 1) (fun x_11 => kc_22 x_5 x_10 x_11 gJo_7))))))))
def f_Jo_plan (gJo : St) (p1 : Int32) (p2 : Int32) : Option ((Int32 × St) ⊕ String) := xc0 (f_Cc_requireRange p1 0 65536) (xc0 (f_Cc_requireRange p2 1 50) (it4 (f_Jo_plan_L22 p2) FU p1 0 0 gJo))
def f_Cc_route (gGo : St) (gFo : St) (gPk : St) (qPk : Int64) (gSk : St) (gAi : St) (gSh : St) (gJo : St) (p1 : Int32) (p2 : Int32) : Option ((Int32 × St) ⊕ String) := xc2 (f_Jo_plan gJo p1 p2) (fun r_1 gJo_2 => some (.inl (r_1, gJo_2)))
def f_Jo_dropOf (gJo : St) (p1 : Int32) : Option ((Int32) ⊕ String) := xc0 (f_Cc_requireIndex p1 (gJo 0 1)) (gb (inb p1 50) (letb (gJo 1 (p1 : Int32).toNatClampNeg) (fun x_3 => some (.inl (x_3)))))
def f_Cc_drop (gGo : St) (gFo : St) (gPk : St) (qPk : Int64) (gSk : St) (gAi : St) (gSh : St) (gJo : St) (p1 : Int32) : Option ((Int32) ⊕ String) := xc1 (f_Jo_dropOf gJo p1) (fun r_1 => some (.inl (r_1)))
def f_Sk_takenCount_X30 (v1_30 : Int32) (v2_30 : Int32) : Option (Int32) := some (v1_30)
def f_Sk_takenCount_J24 (kc_4 : Int32 → Int32 → Option (Int32)) (v1_24 : Int32) (v2_24 : Int32) : Option (Int32) := letb (v2_24 + 1) (fun x_4 => kc_4 v1_24 x_4)
def f_Sk_takenCount_L4 (gSk : St) (kc_4 : Int32 → Int32 → Option (Int32)) (v1_4 : Int32) (v2_4 : Int32) : Option (Int32) := if gSk 0 4 ≤ v2_4 then (f_Sk_takenCount_X30 v1_4 v2_4) else (gb (inb v2_4 10) (letb (gSk 4 (v2_4 : Int32).toNatClampNeg) (fun x_3 => if x_3 = 0 then (f_Sk_takenCount_J24 kc_4 v1_4 v2_4) else (letb (v1_4 + 1) (fun x_6 => f_Sk_takenCount_J24 kc_4 x_6 v2_4)))))
def f_Sk_takenCount (gSk : St) : Option (Int32) := it2 (f_Sk_takenCount_L4 gSk) FU 0 0
def f_Cc_count (gGo : St) (gFo : St) (gPk : St) (qPk : Int64) (gSk : St) (gAi : St) (gSh : St) (gJo : St) (p1 : Int32) : Option ((Int32) ⊕ String) := if p1 = 0 then (some (.inl (gGo 0 5))) else if p1 = 1 then (some (.inl (gSk 0 4))) else if p1 = 2 then (xv1 (f_Sk_takenCount gSk) (fun r_4 => some (.inl (r_4)))) else if p1 = 3 then (some (.inl (gAi 0 1))) else if p1 = 4 then (some (.inl (gSh 0 2))) else if p1 = 5 then (some (.inl (gSh 0 3))) else (some (.inr "java/lang/IndexOutOfBoundsException"))
def f_Mo_thrown (gMo : St) : Option (Int32) := some (gMo 0 0)
def f_Mo_within (p1 : Int32) (p2 : Int32) (p3 : Int32) : Option (Int32) := if p1 < p2 then (some (0)) else (if p3 < p1 then (some (0)) else (some (1)))
def f_Mo_goes_J26 (gMo : St) (s1_26 : Int32) : Option (Int32 × St) := letb (up2 gMo 0 0 s1_26) (fun gMo_1 => if gMo_1 0 0 = 0 then (some (1, gMo_1)) else (some (0, gMo_1)))
def f_Mo_goes (gMo : St) (p1 : Int32) (p2 : Int32) (p3 : Int32) : Option (Int32 × St) := if p1 = 0 then (f_Mo_goes_J26 gMo 1) else (if p2 = 0 then (f_Mo_goes_J26 gMo 2) else (if p3 = 0 then (f_Mo_goes_J26 gMo 3) else (f_Mo_goes_J26 gMo 0)))
def f_Mo_object_J64 (gMo : St) (p1 : Int32) (p2 : Int32) (p3 : Int32) (p4 : Int32) (s1_64 : Int32) (s2_64 : Int32) : Option (Int32 × St) := xv2 (f_Mo_goes gMo s1_64 s2_64 1) (fun r_3 gMo_4 => if r_3 = 0 then (some (0, gMo_4)) else (gb (inb (3 * (gMo_4 0 1)) 18) (letb (up2 gMo_4 1 (3 * (gMo_4 0 1) : Int32).toNatClampNeg p1) (fun gMo_8 => gb (inb ((3 * (gMo_8 0 1)) + 1) 18) (letb (up2 gMo_8 1 ((3 * (gMo_8 0 1)) + 1 : Int32).toNatClampNeg p2) (fun gMo_10 => gb (inb ((3 * (gMo_10 0 1)) + 2) 18) (letb (up2 gMo_10 1 ((3 * (gMo_10 0 1)) + 2 : Int32).toNatClampNeg p3) (fun gMo_12 => gb (inb (gMo_12 0 1) 6) (letb (up2 gMo_12 2 (gMo_12 0 1 : Int32).toNatClampNeg p4) (fun gMo_14 => letb (up2 gMo_14 0 1 ((gMo_14 0 1) + 1)) (fun gMo_15 => some ((gMo_15 0 1) - 1, gMo_15))))))))))))
def f_Mo_object_J63 (gMo : St) (p1 : Int32) (p2 : Int32) (p3 : Int32) (p4 : Int32) (s1_63 : Int32) : Option (Int32 × St) := f_Mo_object_J64 gMo p1 p2 p3 p4 s1_63 0
def f_Mo_object_J15 (gMo : St) (p1 : Int32) (p2 : Int32) (p3 : Int32) (p4 : Int32) (s1_15 : Int32) : Option (Int32 × St) := xv1 (f_Mo_within p1 1 200) (fun r_1 => if r_1 = 0 then (f_Mo_object_J63 gMo p1 p2 p3 p4 s1_15) else (xv1 (f_Mo_within p2 1 200) (fun r_17 => if r_17 = 0 then (f_Mo_object_J63 gMo p1 p2 p3 p4 s1_15) else (xv1 (f_Mo_within p3 1 200) (fun r_20 => if r_20 = 0 then (f_Mo_object_J63 gMo p1 p2 p3 p4 s1_15) else (xv1 (f_Mo_within p4 1 100000) (fun r_23 => if r_23 = 0 then (f_Mo_object_J63 gMo p1 p2 p3 p4 s1_15) else (f_Mo_object_J64 gMo p1 p2 p3 p4 s1_15 1))))))))
def f_Mo_object (gMo : St) (p1 : Int32) (p2 : Int32) (p3 : Int32) (p4 : Int32) : Option (Int32 × St) := if 6 ≤ gMo 0 1 then (f_Mo_object_J15 gMo p1 p2 p3 p4 0) else (f_Mo_object_J15 gMo p1 p2 p3 p4 1)
def f_Mo_isObject (gMo : St) (p1 : Int32) : Option (Int32) := if p1 < 0 then (some (0)) else (if gMo 0 1 ≤ p1 then (some (0)) else (some (1)))
def f_Mo_weak_J23 (gMo : St) (p1 : Int32) (p2 : Int32) (p3 : Int32) (s1_23 : Int32) : Option (Int32 × St) := xv2 (f_Mo_goes gMo s1_23 1 1) (fun r_3 gMo_4 => if r_3 = 0 then (some (0, gMo_4)) else (gb (inb ((6 * p1) + p2) 36) (letb (gMo_4 3 ((6 * p1) + p2 : Int32).toNatClampNeg) (fun x_8 => gb (inb ((6 * p1) + p2) 36) (letb (up2 gMo_4 3 ((6 * p1) + p2 : Int32).toNatClampNeg (vp_nar .boolean p3)) (fun gMo_10 => if x_8 = p3 then (some (0, gMo_10)) else (some (1, gMo_10))))))))
def f_Mo_weak_J22 (gMo : St) (p1 : Int32) (p2 : Int32) (p3 : Int32) : Option (Int32 × St) := f_Mo_weak_J23 gMo p1 p2 p3 0
def f_Mo_weak (gMo : St) (p1 : Int32) (p2 : Int32) (p3 : Int32) : Option (Int32 × St) := xv1 (f_Mo_isObject gMo p1) (fun r_1 => if r_1 = 0 then (f_Mo_weak_J22 gMo p1 p2 p3) else (xv1 (f_Mo_within p2 0 5) (fun r_13 => if r_13 = 0 then (f_Mo_weak_J22 gMo p1 p2 p3) else (f_Mo_weak_J23 gMo p1 p2 p3 1))))
def f_Mo_foam_J76 (gMo : St) (p1 : Int32) (p2 : Int32) (s1_76 : Int32) (s2_76 : Int32) (s3_76 : Int32) (v3_76 : Int32) (v4_76 : Int32) : Option (Int32 × St) := xv2 (f_Mo_goes gMo s1_76 s2_76 s3_76) (fun r_5 gMo_6 => if r_5 = 0 then (some (0, gMo_6)) else (gb (inb ((8 * p1) + v4_76) 32) (letb (up2 gMo_6 5 ((8 * p1) + v4_76 : Int32).toNatClampNeg p2) (fun gMo_10 => gb (inb p1 4) (letb (gMo_10 4 (p1 : Int32).toNatClampNeg) (fun x_12 => gb (inb p1 4) (letb (up2 gMo_10 4 (p1 : Int32).toNatClampNeg (x_12 + 1)) (fun gMo_14 => some (v4_76, gMo_14)))))))))
def f_Mo_foam_J75 (gMo : St) (p1 : Int32) (p2 : Int32) (s1_75 : Int32) (s2_75 : Int32) (v3_75 : Int32) (v4_75 : Int32) : Option (Int32 × St) := f_Mo_foam_J76 gMo p1 p2 s1_75 s2_75 0 v3_75 v4_75
def f_Mo_foam_J71 (gMo : St) (p1 : Int32) (p2 : Int32) (s1_71 : Int32) (s2_71 : Int32) (v3_71 : Int32) (v4_71 : Int32) : Option (Int32 × St) := f_Mo_foam_J76 gMo p1 p2 s1_71 s2_71 1 v3_71 v4_71
def f_Mo_foam_J37 (gMo : St) (p1 : Int32) (p2 : Int32) (s1_37 : Int32) (s2_37 : Int32) (v3_37 : Int32) (v4_37 : Int32) : Option (Int32 × St) := xv1 (f_Mo_within p2 1 500) (fun r_3 => if r_3 = 0 then (f_Mo_foam_J75 gMo p1 p2 s1_37 s2_37 v3_37 v4_37) else (if v4_37 = 0 then (f_Mo_foam_J71 gMo p1 p2 s1_37 s2_37 v3_37 v4_37) else (gb (inb (((8 * p1) + v4_37) - 1) 32) (letb (gMo 5 (((8 * p1) + v4_37) - 1 : Int32).toNatClampNeg) (fun x_18 => if p2 ≤ x_18 then (f_Mo_foam_J75 gMo p1 p2 s1_37 s2_37 v3_37 v4_37) else (f_Mo_foam_J71 gMo p1 p2 s1_37 s2_37 v3_37 v4_37))))))
def f_Mo_foam_J21 (gMo : St) (p1 : Int32) (p2 : Int32) (s0_21 : Int32) (v3_21 : Int32) : Option (Int32 × St) := if 8 ≤ s0_21 then (f_Mo_foam_J37 gMo p1 p2 v3_21 0 v3_21 s0_21) else (f_Mo_foam_J37 gMo p1 p2 v3_21 1 v3_21 s0_21)
def f_Mo_foam (gMo : St) (p1 : Int32) (p2 : Int32) : Option (Int32 × St) := xv1 (f_Mo_within p1 0 3) (fun r_1 => if r_1 = 0 then (f_Mo_foam_J21 gMo p1 p2 0 r_1) else (gb (inb p1 4) (letb (gMo 4 (p1 : Int32).toNatClampNeg) (fun x_23 => f_Mo_foam_J21 gMo p1 p2 x_23 r_1))))
def f_Mo_isRow (gMo : St) (p1 : Int32) (p2 : Int32) : Option (Int32) := xv1 (f_Mo_within p1 0 3) (fun r_1 => if r_1 = 0 then (some (0)) else (if p2 < 0 then (some (0)) else (gb (inb p1 4) (letb (gMo 4 (p1 : Int32).toNatClampNeg) (fun x_6 => if x_6 ≤ p2 then (some (0)) else (some (1)))))))
def f_Mo_point_J122 (gMo : St) (p3 : Int32) (p4 : Int32) (s1_122 : Int32) (s2_122 : Int32) (s3_122 : Int32) (v5_122 : Int32) (v6_122 : Int32) (v7_122 : Int32) (v8_122 : Int32) : Option (Int32 × St) := xv2 (f_Mo_goes gMo s1_122 s2_122 s3_122) (fun r_5 gMo_6 => if r_5 = 0 then (some (0, gMo_6)) else (gb (inb ((6 * v6_122) + v7_122) 192) (letb (up2 gMo_6 7 ((6 * v6_122) + v7_122 : Int32).toNatClampNeg p3) (fun gMo_10 => gb (inb ((6 * v6_122) + v7_122) 192) (letb (up2 gMo_10 8 ((6 * v6_122) + v7_122 : Int32).toNatClampNeg p4) (fun gMo_12 => gb (inb v6_122 32) (letb (gMo_12 6 (v6_122 : Int32).toNatClampNeg) (fun x_14 => gb (inb v6_122 32) (letb (up2 gMo_12 6 (v6_122 : Int32).toNatClampNeg (x_14 + 1)) (fun gMo_16 => some (v7_122 + 1, gMo_16)))))))))))
def f_Mo_point_J121 (gMo : St) (p3 : Int32) (p4 : Int32) (s1_121 : Int32) (s2_121 : Int32) (v5_121 : Int32) (v6_121 : Int32) (v7_121 : Int32) (v8_121 : Int32) : Option (Int32 × St) := f_Mo_point_J122 gMo p3 p4 s1_121 s2_121 0 v5_121 v6_121 v7_121 v8_121
def f_Mo_point_J89 (gMo : St) (p3 : Int32) (p4 : Int32) (s1_89 : Int32) (s2_89 : Int32) (v5_89 : Int32) (v6_89 : Int32) (v7_89 : Int32) (v8_89 : Int32) : Option (Int32 × St) := xv1 (f_Mo_within p3 0 10000) (fun r_3 => if r_3 = 0 then (f_Mo_point_J121 gMo p3 p4 s1_89 s2_89 v5_89 v6_89 v7_89 v8_89) else (xv1 (f_Mo_within p4 1 1000) (fun r_18 => if r_18 = 0 then (f_Mo_point_J121 gMo p3 p4 s1_89 s2_89 v5_89 v6_89 v7_89 v8_89) else (if v8_89 = 0 then (f_Mo_point_J121 gMo p3 p4 s1_89 s2_89 v5_89 v6_89 v7_89 v8_89) else (f_Mo_point_J122 gMo p3 p4 s1_89 s2_89 1 v5_89 v6_89 v7_89 v8_89)))))
def f_Mo_point_J72 (gMo : St) (p3 : Int32) (p4 : Int32) (s0_72 : Int32) (v5_72 : Int32) (v6_72 : Int32) (v7_72 : Int32) : Option (Int32 × St) := if 6 ≤ v7_72 then (f_Mo_point_J89 gMo p3 p4 v5_72 0 v5_72 v6_72 v7_72 s0_72) else (f_Mo_point_J89 gMo p3 p4 v5_72 1 v5_72 v6_72 v7_72 s0_72)
def f_Mo_point_J67 (gMo : St) (p3 : Int32) (p4 : Int32) (v5_67 : Int32) (v6_67 : Int32) (v7_67 : Int32) : Option (Int32 × St) := f_Mo_point_J72 gMo p3 p4 1 v5_67 v6_67 v7_67
def f_Mo_point_J41 (gMo : St) (p3 : Int32) (p4 : Int32) (s0_41 : Int32) (v5_41 : Int32) (v6_41 : Int32) : Option (Int32 × St) := if s0_41 = 0 then (f_Mo_point_J67 gMo p3 p4 v5_41 v6_41 s0_41) else (gb (inb (((6 * v6_41) + s0_41) - 1) 192) (letb (gMo 7 (((6 * v6_41) + s0_41) - 1 : Int32).toNatClampNeg) (fun x_25 => if p3 ≤ x_25 then (f_Mo_point_J72 gMo p3 p4 0 v5_41 v6_41 s0_41) else (f_Mo_point_J67 gMo p3 p4 v5_41 v6_41 s0_41))))
def f_Mo_point_J23 (gMo : St) (p3 : Int32) (p4 : Int32) (s0_23 : Int32) (v5_23 : Int32) : Option (Int32 × St) := if v5_23 = 0 then (f_Mo_point_J41 gMo p3 p4 0 v5_23 s0_23) else (gb (inb s0_23 32) (letb (gMo 6 (s0_23 : Int32).toNatClampNeg) (fun x_29 => f_Mo_point_J41 gMo p3 p4 x_29 v5_23 s0_23)))
def f_Mo_point (gMo : St) (p1 : Int32) (p2 : Int32) (p3 : Int32) (p4 : Int32) : Option (Int32 × St) := xv1 (f_Mo_isRow gMo p1 p2) (fun r_1 => if r_1 = 0 then (f_Mo_point_J23 gMo p3 p4 0 r_1) else (f_Mo_point_J23 gMo p3 p4 ((8 * p1) + p2) r_1))
def f_Mo_up (p1 : Int32) (p2 : Int32) : Option (Int32) := gb (nz p2) (letb (p1 / p2) (fun x_2 => if p1 ≤ x_2 * p2 then (some (x_2)) else (some (x_2 + 1))))
def f_Mo_valueOf_X132 (v3_132 : Int32) : Option (Int32) := some ((-1))
def f_Mo_valueOf_J126 (kc_5 : Int32 → Option (Int32)) (v3_126 : Int32) : Option (Int32) := letb (v3_126 + 1) (fun x_10 => kc_5 x_10)
def f_Mo_valueOf_L5 (gMo : St) (p1 : Int32) (p2 : Int32) (kc_5 : Int32 → Option (Int32)) (v3_5 : Int32) : Option (Int32) := gb (inb p1 32) (letb (gMo 6 (p1 : Int32).toNatClampNeg) (fun x_3 => if (6 * p1) + x_3 ≤ v3_5 then (f_Mo_valueOf_X132 v3_5) else (gb (inb v3_5 192) (letb (gMo 7 (v3_5 : Int32).toNatClampNeg) (fun x_6 => if x_6 = p2 then (gb (inb v3_5 192) (letb (gMo 8 (v3_5 : Int32).toNatClampNeg) (fun x_33 => some (x_33)))) else (gb (inb p1 32) (letb (gMo 6 (p1 : Int32).toNatClampNeg) (fun x_9 => if (6 * p1) + x_9 ≤ v3_5 + 1 then (f_Mo_valueOf_J126 kc_5 v3_5) else (gb (inb v3_5 192) (letb (gMo 7 (v3_5 : Int32).toNatClampNeg) (fun x_13 => if p2 ≤ x_13 then (f_Mo_valueOf_J126 kc_5 v3_5) else (gb (inb (v3_5 + 1) 192) (letb (gMo 7 (v3_5 + 1 : Int32).toNatClampNeg) (fun x_16 => if x_16 ≤ p2 then (f_Mo_valueOf_J126 kc_5 v3_5) else (gb (inb v3_5 192) (letb (gMo 8 (v3_5 : Int32).toNatClampNeg) (fun x_19 => gb (inb (v3_5 + 1) 192) (letb (gMo 8 (v3_5 + 1 : Int32).toNatClampNeg) (fun x_21 => gb (inb v3_5 192) (letb (gMo 8 (v3_5 : Int32).toNatClampNeg) (fun x_23 => gb (inb v3_5 192) (letb (gMo 7 (v3_5 : Int32).toNatClampNeg) (fun x_25 => gb (inb (v3_5 + 1) 192) (letb (gMo 7 (v3_5 + 1 : Int32).toNatClampNeg) (fun x_27 => gb (inb v3_5 192) (letb (gMo 7 (v3_5 : Int32).toNatClampNeg) (fun x_29 => xv1 (f_Mo_up ((x_21 - x_23) * (p2 - x_25)) (x_27 - x_29)) (fun r_30 => some (x_19 + r_30)))))))))))))))))))))))))))))
def f_Mo_valueOf (gMo : St) (p1 : Int32) (p2 : Int32) : Option (Int32) := letb (6 * p1) (fun x_1 => it1 (f_Mo_valueOf_L5 gMo p1 p2) FU x_1)
def f_Mo_value (gMo : St) (p1 : Int32) (p2 : Int32) (p3 : Int32) : Option (Int32 × St) := xv1 (f_Mo_isRow gMo p1 p2) (fun r_1 => xv2 (f_Mo_goes gMo r_1 1 1) (fun r_3 gMo_4 => if r_3 = 0 then (some (0, gMo_4)) else (xv1 (f_Mo_valueOf gMo_4 ((8 * p1) + p2) p3) (fun r_7 => some (r_7, gMo_4)))))
def f_Mo_thickness_X110 (p1 : Int32) (v4_110 : Int32) (v5_110 : Int32) (gMo_110 : St) : Option (Int32 × St) := gb (inb p1 4) (letb (gMo_110 4 (p1 : Int32).toNatClampNeg) (fun x_10 => if x_10 ≤ v4_110 then (some ((-1), gMo_110)) else (gb (inb ((8 * p1) + v4_110) 32) (letb (gMo_110 5 ((8 * p1) + v4_110 : Int32).toNatClampNeg) (fun x_13 => some (x_13, gMo_110))))))
def f_Mo_thickness_J105 (kc_28 : Int32 → Int32 → St → Option (Int32 × St)) (s0_105 : Int32) (v4_105 : Int32) (v5_105 : Int32) (v6_105 : Int32) (v7_105 : Int32) (v8_105 : Int32) (gMo_105 : St) : Option (Int32 × St) := kc_28 s0_105 v5_105 gMo_105
def f_Mo_thickness_J89 (kc_28 : Int32 → Int32 → St → Option (Int32 × St)) (s0_89 : Int32) (v4_89 : Int32) (v5_89 : Int32) (v6_89 : Int32) (v7_89 : Int32) (v8_89 : Int32) (gMo_89 : St) : Option (Int32 × St) := if v8_89 = 0 then (f_Mo_thickness_J105 kc_28 (v6_89 + 1) v4_89 s0_89 v6_89 v7_89 v8_89 gMo_89) else (f_Mo_thickness_J105 kc_28 v4_89 v4_89 s0_89 v6_89 v7_89 v8_89 gMo_89)
def f_Mo_thickness_J75 (kc_28 : Int32 → Int32 → St → Option (Int32 × St)) (s0_75 : Int32) (v4_75 : Int32) (v5_75 : Int32) (v6_75 : Int32) (v7_75 : Int32) (gMo_75 : St) : Option (Int32 × St) := if s0_75 = 0 then (f_Mo_thickness_J89 kc_28 v5_75 v4_75 v5_75 v6_75 v7_75 s0_75 gMo_75) else (f_Mo_thickness_J89 kc_28 v6_75 v4_75 v5_75 v6_75 v7_75 s0_75 gMo_75)
def f_Mo_thickness_J74 (kc_28 : Int32 → Int32 → St → Option (Int32 × St)) (v4_74 : Int32) (v5_74 : Int32) (v6_74 : Int32) (v7_74 : Int32) (gMo_74 : St) : Option (Int32 × St) := f_Mo_thickness_J75 kc_28 0 v4_74 v5_74 v6_74 v7_74 gMo_74
def f_Mo_thickness_L28 (p1 : Int32) (p2 : Int32) (p3 : Int32) (kc_28 : Int32 → Int32 → St → Option (Int32 × St)) (v4_28 : Int32) (v5_28 : Int32) (gMo_28 : St) : Option (Int32 × St) := if v5_28 ≤ v4_28 then (f_Mo_thickness_X110 p1 v4_28 v5_28 gMo_28) else (letb ((v4_28 + v5_28) / 2) (fun x_15 => xv1 (f_Mo_valueOf gMo_28 ((8 * p1) + x_15) p2) (fun r_16 => if r_16 = (-1) then (f_Mo_thickness_J74 kc_28 v4_28 v5_28 x_15 r_16 gMo_28) else (if p3 < r_16 then (f_Mo_thickness_J74 kc_28 v4_28 v5_28 x_15 r_16 gMo_28) else (f_Mo_thickness_J75 kc_28 1 v4_28 v5_28 x_15 r_16 gMo_28)))))
def f_Mo_thickness (gMo : St) (p1 : Int32) (p2 : Int32) (p3 : Int32) : Option (Int32 × St) := xv1 (f_Mo_within p1 0 3) (fun r_1 => xv2 (f_Mo_goes gMo r_1 1 1) (fun r_3 gMo_4 => if r_3 = 0 then (some (0, gMo_4)) else (gb (inb p1 4) (letb (gMo_4 4 (p1 : Int32).toNatClampNeg) (fun x_8 => it3 (f_Mo_thickness_L28 p1 p2 p3) FU 0 x_8 gMo_4)))))
def f_Mo_isIn (p1 : Int32) (p2 : Int32) : Option (Int32) := if (p1 >>> (p2 &&& 31)) &&& 1 = 1 then (some (1)) else (some (0))
def f_Mo_turn_X58 (v3_58 : Int32) (v4_58 : Int32) (gMo_58 : St) : Option (St) := some (gMo_58)
def f_Mo_turn_J51 (kc_5 : Int32 → Int32 → St → Option (St)) (s0_51 : Int32) (v3_51 : Int32) (v4_51 : Int32) (gMo_51 : St) : Option (St) := letb (v4_51 + (-1)) (fun x_8 => kc_5 s0_51 x_8 gMo_51)
def f_Mo_turn_J33 (p1 : Int32) (kc_5 : Int32 → Int32 → St → Option (St)) (gMo_5 : St) (s1_33 : Int32) (s2_33 : Int32) (v3_33 : Int32) (v4_33 : Int32) (gMo_33 : St) : Option (St) := gb (inb s1_33 6) (letb (up2 gMo_33 10 (s1_33 : Int32).toNatClampNeg s2_33) (fun gMo_5 => xv1 (f_Mo_isIn p1 v4_33) (fun r_6 => if r_6 = 0 then (f_Mo_turn_J51 kc_5 v3_33 v3_33 v4_33 gMo_5) else (f_Mo_turn_J51 kc_5 (v3_33 / 6) v3_33 v4_33 gMo_5))))
def f_Mo_turn_L5 (p1 : Int32) (kc_5 : Int32 → Int32 → St → Option (St)) (v3_5 : Int32) (v4_5 : Int32) (gMo_5 : St) : Option (St) := if v4_5 < 0 then (f_Mo_turn_X58 v3_5 v4_5 gMo_5) else (xv1 (f_Mo_isIn p1 v4_5) (fun r_2 => if r_2 = 0 then (f_Mo_turn_J33 p1 kc_5 gMo_5 v4_5 (-1) v3_5 v4_5 gMo_5) else (f_Mo_turn_J33 p1 kc_5 gMo_5 v4_5 (v3_5 - v3_5 / 6 * 6) v3_5 v4_5 gMo_5)))
def f_Mo_turn (gMo : St) (p1 : Int32) (p2 : Int32) : Option (St) := it3 (f_Mo_turn_L5 p1) FU p2 5 gMo
def f_Mo_stands_X53 (v2_53 : Int32) (v3_53 : Int32) : Option (Int32) := gb (isb v2_53) (some (v2_53))
def f_Mo_stands_J46 (kc_4 : Int32 → Int32 → Option (Int32)) (s0_46 : Int32) (v2_46 : Int32) (v3_46 : Int32) : Option (Int32) := letb (v3_46 + 1) (fun x_3 => kc_4 s0_46 x_3)
def f_Mo_stands_J45 (kc_4 : Int32 → Int32 → Option (Int32)) (v2_45 : Int32) (v3_45 : Int32) : Option (Int32) := f_Mo_stands_J46 kc_4 0 v2_45 v3_45
def f_Mo_stands_J41 (kc_4 : Int32 → Int32 → Option (Int32)) (v2_41 : Int32) (v3_41 : Int32) : Option (Int32) := f_Mo_stands_J46 kc_4 1 v2_41 v3_41
def f_Mo_stands_L4 (gMo : St) (p1 : Int32) (kc_4 : Int32 → Int32 → Option (Int32)) (v2_4 : Int32) (v3_4 : Int32) : Option (Int32) := if 6 ≤ v3_4 then (f_Mo_stands_X53 v2_4 v3_4) else (if v2_4 = 0 then (f_Mo_stands_J45 kc_4 v2_4 v3_4) else (xv1 (f_Mo_isIn p1 v3_4) (fun r_5 => if r_5 = 0 then (f_Mo_stands_J41 kc_4 v2_4 v3_4) else (gb (inb v3_4 6) (letb (gMo 10 (v3_4 : Int32).toNatClampNeg) (fun x_9 => gb (inb ((6 * v3_4) + x_9) 36) (letb (gMo 3 ((6 * v3_4) + x_9 : Int32).toNatClampNeg) (fun x_11 => if x_11 = 0 then (f_Mo_stands_J41 kc_4 v2_4 v3_4) else (f_Mo_stands_J45 kc_4 v2_4 v3_4)))))))))
def f_Mo_stands (gMo : St) (p1 : Int32) : Option (Int32) := it2 (f_Mo_stands_L4 gMo p1) FU 1 0
def f_Mo_along_J58 (gMo : St) (p1 : Int32) (p3 : Int32) (s0_58 : Int32) (v4_58 : Int32) : Option (Int32) := if p3 = 0 then (gb (inb ((3 * p1) + v4_58) 18) (letb (gMo 1 ((3 * p1) + v4_58 : Int32).toNatClampNeg) (fun x_8 => some (x_8)))) else (if p3 = 1 then (gb (inb ((3 * p1) + s0_58) 18) (letb (gMo 1 ((3 * p1) + s0_58 : Int32).toNatClampNeg) (fun x_6 => some (x_6)))) else (gb (inb ((3 * p1) + ((3 - v4_58) - s0_58)) 18) (letb (gMo 1 ((3 * p1) + ((3 - v4_58) - s0_58) : Int32).toNatClampNeg) (fun x_4 => some (x_4)))))
def f_Mo_along_J40 (gMo : St) (p1 : Int32) (p3 : Int32) (v4_40 : Int32) : Option (Int32) := f_Mo_along_J58 gMo p1 p3 0 v4_40
def f_Mo_along_J53 (gMo : St) (p1 : Int32) (p3 : Int32) (v4_53 : Int32) : Option (Int32) := f_Mo_along_J58 gMo p1 p3 1 v4_53
def f_Mo_along_J28 (gMo : St) (p1 : Int32) (p2 : Int32) (p3 : Int32) (s0_28 : Int32) : Option (Int32) := if p2 = 1 then (f_Mo_along_J40 gMo p1 p3 s0_28) else (if p2 = 3 then (f_Mo_along_J40 gMo p1 p3 s0_28) else (if p2 = 0 then (f_Mo_along_J53 gMo p1 p3 s0_28) else (if p2 = 5 then (f_Mo_along_J53 gMo p1 p3 s0_28) else (f_Mo_along_J58 gMo p1 p3 2 s0_28))))
def f_Mo_along_J9 (gMo : St) (p1 : Int32) (p2 : Int32) (p3 : Int32) : Option (Int32) := f_Mo_along_J28 gMo p1 p2 p3 0
def f_Mo_along_J23 (gMo : St) (p1 : Int32) (p2 : Int32) (p3 : Int32) : Option (Int32) := f_Mo_along_J28 gMo p1 p2 p3 1
def f_Mo_along (gMo : St) (p1 : Int32) (p2 : Int32) (p3 : Int32) : Option (Int32) := if p2 = 0 then (f_Mo_along_J9 gMo p1 p2 p3) else (if p2 = 2 then (f_Mo_along_J9 gMo p1 p2 p3) else (if p2 = 1 then (f_Mo_along_J23 gMo p1 p2 p3) else (if p2 = 4 then (f_Mo_along_J23 gMo p1 p2 p3) else (f_Mo_along_J28 gMo p1 p2 p3 2))))
def f_Mo_lengthOf_X50 (v3_50 : Int32) (v4_50 : Int32) : Option (Int32) := some (v3_50)
def f_Mo_lengthOf_J43 (kc_5 : Int32 → Int32 → Option (Int32)) (s0_43 : Int32) (v3_43 : Int32) (v4_43 : Int32) : Option (Int32) := letb (v4_43 + 1) (fun x_4 => kc_5 s0_43 x_4)
def f_Mo_lengthOf_L5 (gMo : St) (p1 : Int32) (p2 : Int32) (kc_5 : Int32 → Int32 → Option (Int32)) (v3_5 : Int32) (v4_5 : Int32) : Option (Int32) := if 6 ≤ v4_5 then (f_Mo_lengthOf_X50 v3_5 v4_5) else (xv1 (f_Mo_isIn p1 v4_5) (fun r_2 => if r_2 = 0 then (f_Mo_lengthOf_J43 kc_5 v3_5 v3_5 v4_5) else (gb (inb v4_5 6) (letb (gMo 10 (v4_5 : Int32).toNatClampNeg) (fun x_7 => xv1 (f_Mo_along gMo v4_5 x_7 0) (fun r_8 => f_Mo_lengthOf_J43 kc_5 ((v3_5 + r_8) + p2) v3_5 v4_5))))))
def f_Mo_lengthOf (gMo : St) (p1 : Int32) (p2 : Int32) : Option (Int32) := it2 (f_Mo_lengthOf_L5 gMo p1 p2) FU p2 0
def f_Mo_widest_X64 (p3 : Int32) (v4_64 : Int32) (v5_64 : Int32) : Option (Int32) := some (v4_64 + (2 * p3))
def f_Mo_widest_J56 (kc_6 : Int32 → Int32 → Option (Int32)) (s0_56 : Int32) (v4_56 : Int32) (v5_56 : Int32) (v6_56 : Int32) : Option (Int32) := letb (v5_56 + 1) (fun x_4 => kc_6 s0_56 x_4)
def f_Mo_widest_J40 (kc_6 : Int32 → Int32 → Option (Int32)) (s0_40 : Int32) (v4_40 : Int32) (v5_40 : Int32) : Option (Int32) := if s0_40 ≤ v4_40 then (f_Mo_widest_J56 kc_6 v4_40 v4_40 v5_40 s0_40) else (f_Mo_widest_J56 kc_6 s0_40 v4_40 v5_40 s0_40)
def f_Mo_widest_L6 (gMo : St) (p1 : Int32) (p2 : Int32) (p3 : Int32) (kc_6 : Int32 → Int32 → Option (Int32)) (v4_6 : Int32) (v5_6 : Int32) : Option (Int32) := if 6 ≤ v5_6 then (f_Mo_widest_X64 p3 v4_6 v5_6) else (xv1 (f_Mo_isIn p1 v5_6) (fun r_2 => if r_2 = 0 then (f_Mo_widest_J40 kc_6 0 v4_6 v5_6) else (gb (inb v5_6 6) (letb (gMo 10 (v5_6 : Int32).toNatClampNeg) (fun x_8 => xv1 (f_Mo_along gMo v5_6 x_8 p2) (fun r_9 => f_Mo_widest_J40 kc_6 r_9 v4_6 v5_6))))))
def f_Mo_widest (gMo : St) (p1 : Int32) (p2 : Int32) (p3 : Int32) : Option (Int32) := it2 (f_Mo_widest_L6 gMo p1 p2 p3) FU 0 0
def f_Mo_pack_X308 (v3_308 : Int32) (v4_308 : Int32) (v5_308 : Int64) (v7_308 : Int32) (v8_308 : Int32) (gMo_308 : St) : Option (Int32 × St) := some (v4_308, gMo_308)
def f_Mo_pack_L281  (kc_281 : Int32 → Int32 → Int64 → Int32 → Int32 → St → Option (Int32 × St)) (v3_281 : Int32) (v4_281 : Int32) (v5_281 : Int64) (v7_281 : Int32) (v8_281 : Int32) (gMo_281 : St) : Option (Int32 × St) := if 6 ≤ v8_281 then (f_Mo_pack_X308 v3_281 v4_281 v5_281 v7_281 v8_281 gMo_281) else (gb (inb v8_281 6) (letb (gMo_281 10 (v8_281 : Int32).toNatClampNeg) (fun x_21 => gb (inb v8_281 6) (letb (up2 gMo_281 9 (v8_281 : Int32).toNatClampNeg x_21) (fun gMo_23 => letb (v8_281 + 1) (fun x_24 => kc_281 v3_281 v4_281 v5_281 v7_281 x_24 gMo_23))))))
def f_Mo_pack_X220 (p1 : Int32) (p2 : Int32) (v3_220 : Int32) (v4_220 : Int32) (v5_220 : Int64) (v7_220 : Int32) (v8_220 : Int32) (gMo_220 : St) : Option (Int32 × St) := if 0 ≤ lg_cmp v5_220 0 then (xv1 (f_Mo_turn gMo_220 p1 v7_220) (fun gMo_6 => xv1 (f_Mo_lengthOf gMo_6 p1 p2) (fun r_8 => letb (up2 gMo_6 0 14 r_8) (fun gMo_10 => xv1 (f_Mo_widest gMo_10 p1 1 p2) (fun r_11 => letb (up2 gMo_10 0 15 r_11) (fun gMo_13 => xv1 (f_Mo_widest gMo_13 p1 2 p2) (fun r_14 => letb (up2 gMo_13 0 16 r_14) (fun gMo_16 => letb (up2 gMo_16 0 13 p2) (fun gMo_17 => letb (up2 gMo_17 0 10 1) (fun gMo_18 => it6 (f_Mo_pack_L281) FU v3_220 v4_220 v5_220 v7_220 0 gMo_18)))))))))) else (some ((-1), gMo_220))
def f_Mo_pack_J214 (kc_118 : Int32 → Int32 → Int64 → Int32 → Int32 → St → Option (Int32 × St)) (v3_214 : Int32) (v4_214 : Int32) (v5_214 : Int64) (v7_214 : Int32) (v8_214 : Int32) (gMo_214 : St) : Option (Int32 × St) := letb (v8_214 + 1) (fun x_30 => kc_118 v3_214 v4_214 v5_214 v7_214 x_30 gMo_214)
def f_Mo_pack_J212 (kc_118 : Int32 → Int32 → Int64 → Int32 → Int32 → St → Option (Int32 × St)) (s0_212 : Int64) (v3_212 : Int32) (v4_212 : Int32) (v5_212 : Int64) (v7_212 : Int32) (v8_212 : Int32) (v9_212 : Int64) (gMo_212 : St) : Option (Int32 × St) := f_Mo_pack_J214 kc_118 v3_212 v4_212 s0_212 v7_212 v8_212 gMo_212
def f_Mo_pack_J205 (kc_118 : Int32 → Int32 → Int64 → Int32 → Int32 → St → Option (Int32 × St)) (v3_205 : Int32) (v4_205 : Int32) (v5_205 : Int64) (v7_205 : Int32) (v8_205 : Int32) (v9_205 : Int64) (gMo_205 : St) : Option (Int32 × St) := f_Mo_pack_J212 kc_118 v9_205 v3_205 v4_205 v5_205 v7_205 v8_205 v9_205 gMo_205
def f_Mo_pack_J188 (kc_118 : Int32 → Int32 → Int64 → Int32 → Int32 → St → Option (Int32 × St)) (s0_188 : Int32) (v3_188 : Int32) (v4_188 : Int32) (v5_188 : Int64) (v7_188 : Int32) (v8_188 : Int32) (v9_188 : Int64) (gMo_188 : St) : Option (Int32 × St) := if lg_cmp v5_188 0 < 0 then (f_Mo_pack_J205 kc_118 v3_188 v4_188 v5_188 s0_188 v8_188 v9_188 gMo_188) else (if 0 ≤ lg_cmp v9_188 v5_188 then (f_Mo_pack_J212 kc_118 v5_188 v3_188 v4_188 v5_188 s0_188 v8_188 v9_188 gMo_188) else (f_Mo_pack_J205 kc_118 v3_188 v4_188 v5_188 s0_188 v8_188 v9_188 gMo_188))
def f_Mo_pack_J181 (kc_118 : Int32 → Int32 → Int64 → Int32 → Int32 → St → Option (Int32 × St)) (v3_181 : Int32) (v4_181 : Int32) (v5_181 : Int64) (v7_181 : Int32) (v8_181 : Int32) (v9_181 : Int64) (gMo_181 : St) : Option (Int32 × St) := f_Mo_pack_J188 kc_118 v8_181 v3_181 v4_181 v5_181 v7_181 v8_181 v9_181 gMo_181
def f_Mo_pack_L118 (p1 : Int32) (p2 : Int32) (kc_118 : Int32 → Int32 → Int64 → Int32 → Int32 → St → Option (Int32 × St)) (v3_118 : Int32) (v4_118 : Int32) (v5_118 : Int64) (v7_118 : Int32) (v8_118 : Int32) (gMo_118 : St) : Option (Int32 × St) := if v3_118 ≤ v8_118 then (f_Mo_pack_X220 p1 p2 v3_118 v4_118 v5_118 v7_118 v8_118 gMo_118) else (xv1 (f_Mo_turn gMo_118 p1 v8_118) (fun gMo_26 => xv1 (f_Mo_stands gMo_26 p1) (fun r_28 => if r_28 = 0 then (f_Mo_pack_J214 kc_118 v3_118 v4_118 v5_118 v7_118 v8_118 gMo_26) else (xv1 (f_Mo_lengthOf gMo_26 p1 p2) (fun r_32 => xv1 (f_Mo_widest gMo_26 p1 1 p2) (fun r_34 => xv1 (f_Mo_widest gMo_26 p1 2 p2) (fun r_36 => letb ((((r_32 : Int32).toInt64) * ((r_34 : Int32).toInt64)) * ((r_36 : Int32).toInt64)) (fun x_38 => if lg_cmp v5_118 0 < 0 then (f_Mo_pack_J181 kc_118 v3_118 v4_118 v5_118 v7_118 v8_118 x_38 gMo_26) else (if 0 ≤ lg_cmp x_38 v5_118 then (f_Mo_pack_J188 kc_118 v7_118 v3_118 v4_118 v5_118 v7_118 v8_118 x_38 gMo_26) else (f_Mo_pack_J181 kc_118 v3_118 v4_118 v5_118 v7_118 v8_118 x_38 gMo_26))))))))))
def f_Mo_pack_X107 (p1 : Int32) (p2 : Int32) (v3_107 : Int32) (v4_107 : Int32) (v5_107 : Int32) (gMo_107 : St) : Option (Int32 × St) := it6 (f_Mo_pack_L118 p1 p2) FU v3_107 v4_107 (-1) 0 0 gMo_107
def f_Mo_pack_J99 (kc_56 : Int32 → Int32 → Int32 → St → Option (Int32 × St)) (s0_99 : Int32) (v3_99 : Int32) (v4_99 : Int32) (v5_99 : Int32) (gMo_99 : St) : Option (Int32 × St) := letb (v5_99 + 1) (fun x_48 => kc_56 v3_99 s0_99 x_48 gMo_99)
def f_Mo_pack_J80 (p1 : Int32) (kc_56 : Int32 → Int32 → Int32 → St → Option (Int32 × St)) (s0_80 : Int32) (v3_80 : Int32) (v4_80 : Int32) (v5_80 : Int32) (gMo_80 : St) : Option (Int32 × St) := xv1 (f_Mo_isIn p1 v5_80) (fun r_46 => if r_46 = 0 then (f_Mo_pack_J99 kc_56 v4_80 s0_80 v4_80 v5_80 gMo_80) else (f_Mo_pack_J99 kc_56 (v4_80 + 1) s0_80 v4_80 v5_80 gMo_80))
def f_Mo_pack_L56 (p1 : Int32) (p2 : Int32) (kc_56 : Int32 → Int32 → Int32 → St → Option (Int32 × St)) (v3_56 : Int32) (v4_56 : Int32) (v5_56 : Int32) (gMo_56 : St) : Option (Int32 × St) := if 6 ≤ v5_56 then (f_Mo_pack_X107 p1 p2 v3_56 v4_56 v5_56 gMo_56) else (xv1 (f_Mo_isIn p1 v5_56) (fun r_44 => if r_44 = 0 then (f_Mo_pack_J80 p1 kc_56 v3_56 v3_56 v4_56 v5_56 gMo_56) else (f_Mo_pack_J80 p1 kc_56 (6 * v3_56) v3_56 v4_56 v5_56 gMo_56)))
def f_Mo_pack_J39 (gMo : St) (p1 : Int32) (p2 : Int32) (s1_39 : Int32) (s2_39 : Int32) : Option (Int32 × St) := xv2 (f_Mo_goes gMo s1_39 s2_39 1) (fun r_1 gMo_2 => if r_1 = 0 then (some (0, gMo_2)) else (it4 (f_Mo_pack_L56 p1 p2) FU 1 0 0 gMo_2))
def f_Mo_pack_J38 (gMo : St) (p1 : Int32) (p2 : Int32) (s1_38 : Int32) : Option (Int32 × St) := f_Mo_pack_J39 gMo p1 p2 s1_38 0
def f_Mo_pack_J20 (gMo : St) (p1 : Int32) (p2 : Int32) (s1_20 : Int32) : Option (Int32 × St) := if p1 = 0 then (f_Mo_pack_J38 gMo p1 p2 s1_20) else (xv1 (f_Mo_within p2 0 20) (fun r_52 => if r_52 = 0 then (f_Mo_pack_J38 gMo p1 p2 s1_20) else (f_Mo_pack_J39 gMo p1 p2 s1_20 1)))
def f_Mo_pack_J19 (gMo : St) (p1 : Int32) (p2 : Int32) : Option (Int32 × St) := f_Mo_pack_J20 gMo p1 p2 0
def f_Mo_pack (gMo : St) (p1 : Int32) (p2 : Int32) : Option (Int32 × St) := if p1 < 0 then (f_Mo_pack_J19 gMo p1 p2) else (if 1 <<< ((gMo 0 1) &&& 31) ≤ p1 then (f_Mo_pack_J19 gMo p1 p2) else (f_Mo_pack_J20 gMo p1 p2 1))
def f_Mo_size (gMo : St) (p1 : Int32) : Option (Int32 × St) := xv1 (f_Mo_within p1 0 2) (fun r_1 => xv2 (f_Mo_goes gMo r_1 (gMo 0 10) 1) (fun r_3 gMo_4 => if r_3 = 0 then (some (0, gMo_4)) else (if p1 = 0 then (some (gMo_4 0 14, gMo_4)) else (if p1 = 1 then (some (gMo_4 0 15, gMo_4)) else (some (gMo_4 0 16, gMo_4))))))
def f_Mo_at_J108 (p1 : Int32) (v3_108 : Int32) (v4_108 : Int32) (gMo_108 : St) : Option (Int32 × St) := gb (inb p1 6) (letb (gMo_108 9 (p1 : Int32).toNatClampNeg) (fun x_9 => some (x_9, gMo_108)))
def f_Mo_at_X93 (p1 : Int32) (p2 : Int32) (v3_93 : Int32) (v4_93 : Int32) (gMo_93 : St) : Option (Int32 × St) := if p2 = (-1) then (f_Mo_at_J108 p1 v3_93 v4_93 gMo_93) else (gb (inb p1 6) (letb (gMo_93 9 (p1 : Int32).toNatClampNeg) (fun x_12 => if x_12 = (-1) then (f_Mo_at_J108 p1 v3_93 v4_93 gMo_93) else (some (v3_93, gMo_93)))))
def f_Mo_at_J86 (kc_44 : Int32 → Int32 → St → Option (Int32 × St)) (s0_86 : Int32) (v3_86 : Int32) (v4_86 : Int32) (gMo_86 : St) : Option (Int32 × St) := letb (v4_86 + 1) (fun x_17 => kc_44 s0_86 x_17 gMo_86)
def f_Mo_at_L44 (p1 : Int32) (p2 : Int32) (kc_44 : Int32 → Int32 → St → Option (Int32 × St)) (v3_44 : Int32) (v4_44 : Int32) (gMo_44 : St) : Option (Int32 × St) := if p1 ≤ v4_44 then (f_Mo_at_X93 p1 p2 v3_44 v4_44 gMo_44) else (gb (inb v4_44 6) (letb (gMo_44 9 (v4_44 : Int32).toNatClampNeg) (fun x_16 => if x_16 = (-1) then (f_Mo_at_J86 kc_44 v3_44 v3_44 v4_44 gMo_44) else (gb (inb v4_44 6) (letb (gMo_44 9 (v4_44 : Int32).toNatClampNeg) (fun x_20 => xv1 (f_Mo_along gMo_44 v4_44 x_20 0) (fun r_21 => f_Mo_at_J86 kc_44 ((v3_44 + r_21) + (gMo_44 0 13)) v3_44 v4_44 gMo_44)))))))
def f_Mo_at_J23 (gMo : St) (p1 : Int32) (p2 : Int32) (s1_23 : Int32) : Option (Int32 × St) := xv2 (f_Mo_goes gMo s1_23 (gMo 0 10) 1) (fun r_3 gMo_4 => if r_3 = 0 then (some (0, gMo_4)) else (letb (gMo_4 0 13) (fun x_7 => it3 (f_Mo_at_L44 p1 p2) FU x_7 0 gMo_4)))
def f_Mo_at_J22 (gMo : St) (p1 : Int32) (p2 : Int32) : Option (Int32 × St) := f_Mo_at_J23 gMo p1 p2 0
def f_Mo_at (gMo : St) (p1 : Int32) (p2 : Int32) : Option (Int32 × St) := xv1 (f_Mo_isObject gMo p1) (fun r_1 => if r_1 = 0 then (f_Mo_at_J22 gMo p1 p2) else (xv1 (f_Mo_within p2 (-1) 0) (fun r_24 => if r_24 = 0 then (f_Mo_at_J22 gMo p1 p2) else (f_Mo_at_J23 gMo p1 p2 1))))
def f_Mo_crate_J53 (gMo : St) (p1 : Int32) (p2 : Int32) (p3 : Int32) (s1_53 : Int32) (s2_53 : Int32) : Option (Int32 × St) := xv2 (f_Mo_goes gMo s1_53 s2_53 1) (fun r_3 gMo_4 => if r_3 = 0 then (some (0, gMo_4)) else (gb (inb (3 * (gMo_4 0 18)) 30) (letb (up2 gMo_4 12 (3 * (gMo_4 0 18) : Int32).toNatClampNeg p1) (fun gMo_8 => gb (inb ((3 * (gMo_8 0 18)) + 1) 30) (letb (up2 gMo_8 12 ((3 * (gMo_8 0 18)) + 1 : Int32).toNatClampNeg p2) (fun gMo_10 => gb (inb ((3 * (gMo_10 0 18)) + 2) 30) (letb (up2 gMo_10 12 ((3 * (gMo_10 0 18)) + 2 : Int32).toNatClampNeg p3) (fun gMo_12 => letb (up2 gMo_12 0 18 ((gMo_12 0 18) + 1)) (fun gMo_13 => some ((gMo_13 0 18) - 1, gMo_13))))))))))
def f_Mo_crate_J52 (gMo : St) (p1 : Int32) (p2 : Int32) (p3 : Int32) (s1_52 : Int32) : Option (Int32 × St) := f_Mo_crate_J53 gMo p1 p2 p3 s1_52 0
def f_Mo_crate_J15 (gMo : St) (p1 : Int32) (p2 : Int32) (p3 : Int32) (s1_15 : Int32) : Option (Int32 × St) := xv1 (f_Mo_within p1 1 2000) (fun r_1 => if r_1 = 0 then (f_Mo_crate_J52 gMo p1 p2 p3 s1_15) else (xv1 (f_Mo_within p2 1 2000) (fun r_15 => if r_15 = 0 then (f_Mo_crate_J52 gMo p1 p2 p3 s1_15) else (xv1 (f_Mo_within p3 1 2000) (fun r_18 => if r_18 = 0 then (f_Mo_crate_J52 gMo p1 p2 p3 s1_15) else (f_Mo_crate_J53 gMo p1 p2 p3 s1_15 1))))))
def f_Mo_crate (gMo : St) (p1 : Int32) (p2 : Int32) (p3 : Int32) : Option (Int32 × St) := if 10 ≤ gMo 0 18 then (f_Mo_crate_J15 gMo p1 p2 p3 0) else (f_Mo_crate_J15 gMo p1 p2 p3 1)
def f_Mo_hasRoom_J76 (gMo : St) (p1 : Int32) (v2_76 : Int32) (v3_76 : Int32) (v4_76 : Int32) (v5_76 : Int32) : Option (Int32) := gb (inb ((3 * p1) + 2) 30) (letb (gMo 12 ((3 * p1) + 2 : Int32).toNatClampNeg) (fun x_6 => if x_6 < gMo 0 16 then (some (0)) else (some (1))))
def f_Mo_hasRoom_J64 (gMo : St) (p1 : Int32) (s0_64 : Int32) (v2_64 : Int32) (v3_64 : Int32) (v4_64 : Int32) : Option (Int32) := if v4_64 = 0 then (if s0_64 = 0 then (some (0)) else (f_Mo_hasRoom_J76 gMo p1 v2_64 v3_64 v4_64 s0_64)) else (f_Mo_hasRoom_J76 gMo p1 v2_64 v3_64 v4_64 s0_64)
def f_Mo_hasRoom_J63 (gMo : St) (p1 : Int32) (v2_63 : Int32) (v3_63 : Int32) (v4_63 : Int32) : Option (Int32) := f_Mo_hasRoom_J64 gMo p1 0 v2_63 v3_63 v4_63
def f_Mo_hasRoom_J41 (gMo : St) (p1 : Int32) (s0_41 : Int32) (v2_41 : Int32) (v3_41 : Int32) : Option (Int32) := if v3_41 < gMo 0 14 then (f_Mo_hasRoom_J63 gMo p1 v2_41 v3_41 s0_41) else (if v2_41 < gMo 0 15 then (f_Mo_hasRoom_J63 gMo p1 v2_41 v3_41 s0_41) else (f_Mo_hasRoom_J64 gMo p1 1 v2_41 v3_41 s0_41))
def f_Mo_hasRoom_J40 (gMo : St) (p1 : Int32) (v2_40 : Int32) (v3_40 : Int32) : Option (Int32) := f_Mo_hasRoom_J41 gMo p1 0 v2_40 v3_40
def f_Mo_hasRoom (gMo : St) (p1 : Int32) : Option (Int32) := gb (inb (3 * p1) 30) (letb (gMo 12 (3 * p1 : Int32).toNatClampNeg) (fun x_2 => gb (inb ((3 * p1) + 1) 30) (letb (gMo 12 ((3 * p1) + 1 : Int32).toNatClampNeg) (fun x_4 => if x_2 < gMo 0 14 then (f_Mo_hasRoom_J40 gMo p1 x_2 x_4) else (if x_4 < gMo 0 15 then (f_Mo_hasRoom_J40 gMo p1 x_2 x_4) else (f_Mo_hasRoom_J41 gMo p1 1 x_2 x_4))))))
def f_Mo_match_X112 (v1_112 : Int32) (v2_112 : Int64) (v4_112 : Int32) (gMo_112 : St) : Option (Int32 × St) := if v1_112 = (-1) then (some (v1_112, gMo_112)) else (gb (inb v1_112 10) (letb (up2 gMo_112 13 (v1_112 : Int32).toNatClampNeg (vp_nar .boolean 1)) (fun gMo_7 => some (v1_112, gMo_7))))
def f_Mo_match_J106 (kc_22 : Int32 → Int64 → Int32 → St → Option (Int32 × St)) (v1_106 : Int32) (v2_106 : Int64) (v4_106 : Int32) (v5_106 : Int64) (gMo_106 : St) : Option (Int32 × St) := letb (v4_106 + 1) (fun x_18 => kc_22 v1_106 v2_106 x_18 gMo_106)
def f_Mo_match_J100 (kc_22 : Int32 → Int64 → Int32 → St → Option (Int32 × St)) (v1_100 : Int32) (v2_100 : Int64) (v4_100 : Int32) (v5_100 : Int64) (gMo_100 : St) : Option (Int32 × St) := f_Mo_match_J106 kc_22 v4_100 v5_100 v4_100 v5_100 gMo_100
def f_Mo_match_L22  (kc_22 : Int32 → Int64 → Int32 → St → Option (Int32 × St)) (v1_22 : Int32) (v2_22 : Int64) (v4_22 : Int32) (gMo_22 : St) : Option (Int32 × St) := if gMo_22 0 18 ≤ v4_22 then (f_Mo_match_X112 v1_22 v2_22 v4_22 gMo_22) else (gb (inb (3 * v4_22) 30) (letb (gMo_22 12 (3 * v4_22 : Int32).toNatClampNeg) (fun x_10 => gb (inb ((3 * v4_22) + 1) 30) (letb (gMo_22 12 ((3 * v4_22) + 1 : Int32).toNatClampNeg) (fun x_12 => gb (inb ((3 * v4_22) + 2) 30) (letb (gMo_22 12 ((3 * v4_22) + 2 : Int32).toNatClampNeg) (fun x_14 => letb ((((x_10 : Int32).toInt64) * ((x_12 : Int32).toInt64)) * ((x_14 : Int32).toInt64)) (fun x_15 => gb (inb v4_22 10) (letb (gMo_22 13 (v4_22 : Int32).toNatClampNeg) (fun x_17 => if x_17 = 0 then (xv1 (f_Mo_hasRoom gMo_22 v4_22) (fun r_20 => if r_20 = 0 then (f_Mo_match_J106 kc_22 v1_22 v2_22 v4_22 x_15 gMo_22) else (if v1_22 = (-1) then (f_Mo_match_J100 kc_22 v1_22 v2_22 v4_22 x_15 gMo_22) else (if 0 ≤ lg_cmp x_15 v2_22 then (f_Mo_match_J106 kc_22 v1_22 v2_22 v4_22 x_15 gMo_22) else (f_Mo_match_J100 kc_22 v1_22 v2_22 v4_22 x_15 gMo_22))))) else (f_Mo_match_J106 kc_22 v1_22 v2_22 v4_22 x_15 gMo_22)))))))))))
def f_Mo_match (gMo : St) : Option (Int32 × St) := xv2 (f_Mo_goes gMo (gMo 0 10) 1 1) (fun r_1 gMo_2 => if r_1 = 0 then (some (0, gMo_2)) else (it4 (f_Mo_match_L22) FU (-1) 0 0 gMo_2))
def f_Mo_free_J18 (gMo : St) (p1 : Int32) (s1_18 : Int32) : Option (Int32 × St) := xv2 (f_Mo_goes gMo s1_18 1 1) (fun r_1 gMo_2 => if r_1 = 0 then (some (0, gMo_2)) else (gb (inb p1 10) (letb (gMo_2 13 (p1 : Int32).toNatClampNeg) (fun x_6 => gb (inb p1 10) (letb (up2 gMo_2 13 (p1 : Int32).toNatClampNeg (vp_nar .boolean 0)) (fun gMo_8 => gb (isb x_6) (some (x_6, gMo_8))))))))
def f_Mo_free_J17 (gMo : St) (p1 : Int32) : Option (Int32 × St) := f_Mo_free_J18 gMo p1 0
def f_Mo_free (gMo : St) (p1 : Int32) : Option (Int32 × St) := if p1 < 0 then (f_Mo_free_J17 gMo p1) else (if gMo 0 18 ≤ p1 then (f_Mo_free_J17 gMo p1) else (f_Mo_free_J18 gMo p1 1))
def f_Mo_weight_X39 (v2_39 : Int32) (v3_39 : Int32) : Option (Int32) := some (v2_39)
def f_Mo_weight_J32 (kc_4 : Int32 → Int32 → Option (Int32)) (s0_32 : Int32) (v2_32 : Int32) (v3_32 : Int32) : Option (Int32) := letb (v3_32 + 1) (fun x_4 => kc_4 s0_32 x_4)
def f_Mo_weight_L4 (gMo : St) (p1 : Int32) (kc_4 : Int32 → Int32 → Option (Int32)) (v2_4 : Int32) (v3_4 : Int32) : Option (Int32) := if gMo 0 1 ≤ v3_4 then (f_Mo_weight_X39 v2_4 v3_4) else (xv1 (f_Mo_isIn p1 v3_4) (fun r_2 => if r_2 = 0 then (f_Mo_weight_J32 kc_4 v2_4 v2_4 v3_4) else (gb (inb v3_4 6) (letb (gMo 2 (v3_4 : Int32).toNatClampNeg) (fun x_7 => f_Mo_weight_J32 kc_4 (v2_4 + x_7) v2_4 v3_4)))))
def f_Mo_weight (gMo : St) (p1 : Int32) : Option (Int32) := it2 (f_Mo_weight_L4 gMo p1) FU 0 0
def f_Mo_split_X149 (v2_149 : Int32) (v3_149 : Int32) (gMo_149 : St) : Option (Int32 × St) := gb (inb (v2_149 - 1) 64) (letb (gMo_149 11 (v2_149 - 1 : Int32).toNatClampNeg) (fun x_7 => if x_7 ≤ 6 then (gb (inb (v2_149 - 1) 64) (letb (gMo_149 11 (v2_149 - 1 : Int32).toNatClampNeg) (fun x_10 => some (x_10, gMo_149)))) else (some ((-1), gMo_149))))
def f_Mo_split_X143 (kc_30 : Int32 → Int32 → St → Option (Int32 × St)) (v2_143 : Int32) (v3_143 : Int32) (v4_143 : Int32) (gMo_143 : St) : Option (Int32 × St) := letb (v3_143 + 1) (fun x_14 => kc_30 v2_143 x_14 gMo_143)
def f_Mo_split_J136 (kc_54 : Int32 → Int32 → Int32 → St → Option (Int32 × St)) (s1_136 : Int32) (s2_136 : Int32) (v2_136 : Int32) (v3_136 : Int32) (v4_136 : Int32) (v5_136 : Int32) (gMo_136 : St) : Option (Int32 × St) := gb (inb s1_136 64) (letb (up2 gMo_136 11 (s1_136 : Int32).toNatClampNeg s2_136) (fun gMo_17 => letb (v4_136 + 1) (fun x_18 => kc_54 v2_136 v3_136 x_18 gMo_17)))
def f_Mo_split_J130 (kc_54 : Int32 → Int32 → Int32 → St → Option (Int32 × St)) (s1_130 : Int32) (v2_130 : Int32) (v3_130 : Int32) (v4_130 : Int32) (v5_130 : Int32) (gMo_130 : St) : Option (Int32 × St) := gb (inb v3_130 64) (letb (gMo_130 11 (v3_130 : Int32).toNatClampNeg) (fun x_20 => f_Mo_split_J136 kc_54 s1_130 x_20 v2_130 v3_130 v4_130 v5_130 gMo_130))
def f_Mo_split_J84 (kc_54 : Int32 → Int32 → Int32 → St → Option (Int32 × St)) (s0_84 : Int32) (v2_84 : Int32) (v3_84 : Int32) (v4_84 : Int32) (gMo_84 : St) : Option (Int32 × St) := if s0_84 = 0 then (f_Mo_split_J130 kc_54 v3_84 v2_84 v3_84 v4_84 s0_84 gMo_84) else (gb (inb (v3_84 - v4_84) 64) (letb (gMo_84 11 (v3_84 - v4_84 : Int32).toNatClampNeg) (fun x_23 => gb (inb v3_84 64) (letb (gMo_84 11 (v3_84 : Int32).toNatClampNeg) (fun x_25 => if x_25 ≤ x_23 + 1 then (f_Mo_split_J130 kc_54 v3_84 v2_84 v3_84 v4_84 s0_84 gMo_84) else (gb (inb (v3_84 - v4_84) 64) (letb (gMo_84 11 (v3_84 - v4_84 : Int32).toNatClampNeg) (fun x_28 => f_Mo_split_J136 kc_54 v3_84 (x_28 + 1) v2_84 v3_84 v4_84 s0_84 gMo_84))))))))
def f_Mo_split_J83 (kc_54 : Int32 → Int32 → Int32 → St → Option (Int32 × St)) (v2_83 : Int32) (v3_83 : Int32) (v4_83 : Int32) (gMo_83 : St) : Option (Int32 × St) := f_Mo_split_J84 kc_54 0 v2_83 v3_83 v4_83 gMo_83
def f_Mo_split_L54 (p1 : Int32) (kc_30 : Int32 → Int32 → St → Option (Int32 × St)) (kc_54 : Int32 → Int32 → Int32 → St → Option (Int32 × St)) (v2_54 : Int32) (v3_54 : Int32) (v4_54 : Int32) (gMo_54 : St) : Option (Int32 × St) := if v3_54 < v4_54 then (f_Mo_split_X143 kc_30 v2_54 v3_54 v4_54 gMo_54) else (if v4_54 &&& v3_54 = v4_54 then (xv1 (f_Mo_weight gMo_54 v4_54) (fun r_30 => if p1 < r_30 then (f_Mo_split_J83 kc_54 v2_54 v3_54 v4_54 gMo_54) else (f_Mo_split_J84 kc_54 1 v2_54 v3_54 v4_54 gMo_54))) else (f_Mo_split_J83 kc_54 v2_54 v3_54 v4_54 gMo_54))
def f_Mo_split_J50 (p1 : Int32) (kc_30 : Int32 → Int32 → St → Option (Int32 × St)) (s1_50 : Int32) (s2_50 : Int32) (v2_50 : Int32) (v3_50 : Int32) (gMo_50 : St) : Option (Int32 × St) := gb (inb s1_50 64) (letb (up2 gMo_50 11 (s1_50 : Int32).toNatClampNeg s2_50) (fun gMo_13 => it4 (f_Mo_split_L54 p1 kc_30) FU v2_50 v3_50 1 gMo_13))
def f_Mo_split_L30 (p1 : Int32) (kc_30 : Int32 → Int32 → St → Option (Int32 × St)) (v2_30 : Int32) (v3_30 : Int32) (gMo_30 : St) : Option (Int32 × St) := if v2_30 ≤ v3_30 then (f_Mo_split_X149 v2_30 v3_30 gMo_30) else (if v3_30 = 0 then (f_Mo_split_J50 p1 kc_30 v3_30 0 v2_30 v3_30 gMo_30) else (f_Mo_split_J50 p1 kc_30 v3_30 99 v2_30 v3_30 gMo_30))
def f_Mo_split_J11 (gMo : St) (p1 : Int32) (s1_11 : Int32) : Option (Int32 × St) := xv2 (f_Mo_goes gMo s1_11 1 1) (fun r_1 gMo_2 => if r_1 = 0 then (some (0, gMo_2)) else (letb (1 <<< ((gMo_2 0 1) &&& 31)) (fun x_5 => it3 (f_Mo_split_L30 p1) FU x_5 0 gMo_2)))
def f_Mo_split (gMo : St) (p1 : Int32) : Option (Int32 × St) := if p1 < 1 then (f_Mo_split_J11 gMo p1 0) else (f_Mo_split_J11 gMo p1 1)
def f_Mo_lag (gMo : St) (p1 : Int32) : Option (Int32 × St) := xv1 (f_Mo_within p1 1 100) (fun r_1 => xv2 (f_Mo_goes gMo r_1 1 1) (fun r_3 gMo_4 => if r_3 = 0 then (some (0, gMo_4)) else (letb (gMo_4 0 23) (fun x_7 => letb (up2 gMo_4 0 23 p1) (fun gMo_8 => some (x_7, gMo_8))))))
def f_Mo_climate_J57 (p1 : Int32) (s0_57 : Int32) (gMo_57 : St) : Option (Int32 × St) := xv1 (f_Mo_up (s0_57 - (1000 * p1)) (gMo_57 0 23)) (fun r_7 => gb (inb (gMo_57 0 21) 200) (letb (up2 gMo_57 14 (gMo_57 0 21 : Int32).toNatClampNeg (s0_57 - r_7)) (fun gMo_10 => letb (up2 gMo_10 0 21 ((gMo_10 0 21) + 1)) (fun gMo_11 => gb (inb ((gMo_11 0 21) - 1) 200) (letb (gMo_11 14 ((gMo_11 0 21) - 1 : Int32).toNatClampNeg) (fun x_13 => some (x_13, gMo_11)))))))
def f_Mo_climate_J16 (gMo : St) (p1 : Int32) (s1_16 : Int32) : Option (Int32 × St) := xv1 (f_Mo_within p1 (-60) 60) (fun r_1 => xv2 (f_Mo_goes gMo s1_16 r_1 1) (fun r_3 gMo_4 => if r_3 = 0 then (some (0, gMo_4)) else (if gMo_4 0 21 = 0 then (f_Mo_climate_J57 p1 20000 gMo_4) else (gb (inb ((gMo_4 0 21) - 1) 200) (letb (gMo_4 14 ((gMo_4 0 21) - 1 : Int32).toNatClampNeg) (fun x_16 => f_Mo_climate_J57 p1 x_16 gMo_4))))))
def f_Mo_climate (gMo : St) (p1 : Int32) : Option (Int32 × St) := if 200 ≤ gMo 0 21 then (f_Mo_climate_J16 gMo p1 0) else (f_Mo_climate_J16 gMo p1 1)
def f_Mo_inside_J18 (gMo : St) (p1 : Int32) (s1_18 : Int32) : Option (Int32 × St) := xv2 (f_Mo_goes gMo s1_18 1 1) (fun r_1 gMo_2 => if r_1 = 0 then (some (0, gMo_2)) else (gb (inb p1 200) (letb (gMo_2 14 (p1 : Int32).toNatClampNeg) (fun x_6 => some (x_6, gMo_2)))))
def f_Mo_inside_J17 (gMo : St) (p1 : Int32) : Option (Int32 × St) := f_Mo_inside_J18 gMo p1 0
def f_Mo_inside (gMo : St) (p1 : Int32) : Option (Int32 × St) := if p1 < 0 then (f_Mo_inside_J17 gMo p1) else (if gMo 0 21 ≤ p1 then (f_Mo_inside_J17 gMo p1) else (f_Mo_inside_J18 gMo p1 1))
def f_Mo_steady_X82 (v3_82 : Int32) (v4_82 : Int32) (v5_82 : Int32) (gMo_82 : St) : Option (Int32 × St) := some (v3_82, gMo_82)
def f_Mo_steady_J75 (kc_29 : Int32 → Int32 → Int32 → St → Option (Int32 × St)) (s0_75 : Int32) (v3_75 : Int32) (v4_75 : Int32) (v5_75 : Int32) (gMo_75 : St) : Option (Int32 × St) := letb (v5_75 + 1) (fun x_10 => kc_29 s0_75 v4_75 x_10 gMo_75)
def f_Mo_steady_J61 (kc_29 : Int32 → Int32 → Int32 → St → Option (Int32 × St)) (s0_61 : Int32) (v3_61 : Int32) (v4_61 : Int32) (v5_61 : Int32) (gMo_61 : St) : Option (Int32 × St) := if s0_61 ≤ v3_61 then (f_Mo_steady_J75 kc_29 v3_61 v3_61 s0_61 v5_61 gMo_61) else (f_Mo_steady_J75 kc_29 s0_61 v3_61 s0_61 v5_61 gMo_61)
def f_Mo_steady_L29 (p1 : Int32) (p2 : Int32) (kc_29 : Int32 → Int32 → Int32 → St → Option (Int32 × St)) (v3_29 : Int32) (v4_29 : Int32) (v5_29 : Int32) (gMo_29 : St) : Option (Int32 × St) := if gMo_29 0 21 ≤ v5_29 then (f_Mo_steady_X82 v3_29 v4_29 v5_29 gMo_29) else (gb (inb v5_29 200) (letb (gMo_29 14 (v5_29 : Int32).toNatClampNeg) (fun x_7 => xv1 (f_Mo_within x_7 p1 p2) (fun r_8 => if r_8 = 0 then (f_Mo_steady_J61 kc_29 0 v3_29 v4_29 v5_29 gMo_29) else (f_Mo_steady_J61 kc_29 (v4_29 + 1) v3_29 v4_29 v5_29 gMo_29)))))
def f_Mo_steady_J11 (gMo : St) (p1 : Int32) (p2 : Int32) (s1_11 : Int32) : Option (Int32 × St) := xv2 (f_Mo_goes gMo s1_11 1 1) (fun r_1 gMo_2 => if r_1 = 0 then (some (0, gMo_2)) else (it4 (f_Mo_steady_L29 p1 p2) FU 0 0 0 gMo_2))
def f_Mo_steady (gMo : St) (p1 : Int32) (p2 : Int32) : Option (Int32 × St) := if p2 < p1 then (f_Mo_steady_J11 gMo p1 p2 0) else (f_Mo_steady_J11 gMo p1 p2 1)
def f_Mo_limit_J28 (gMo : St) (p1 : Int32) (p2 : Int32) (s1_28 : Int32) : Option (St) := xv2 (f_Mo_goes gMo s1_28 1 1) (fun r_3 gMo_4 => if r_3 = 0 then (some (gMo_4)) else (letb (up2 gMo_4 0 24 p1) (fun gMo_7 => letb (up2 gMo_7 0 25 p2) (fun gMo_8 => letb (up2 gMo_8 0 26 1) (fun gMo_9 => some (gMo_9))))))
def f_Mo_limit_J27 (gMo : St) (p1 : Int32) (p2 : Int32) : Option (St) := f_Mo_limit_J28 gMo p1 p2 0
def f_Mo_limit (gMo : St) (p1 : Int32) (p2 : Int32) : Option (St) := xv1 (f_Mo_within p1 1 10000) (fun r_1 => if r_1 = 0 then (f_Mo_limit_J27 gMo p1 p2) else (xv1 (f_Mo_within p2 1 10000) (fun r_11 => if r_11 = 0 then (f_Mo_limit_J27 gMo p1 p2) else (f_Mo_limit_J28 gMo p1 p2 1))))
def f_Mo_shock_J76 (s0_76 : Int32) (gMo_76 : St) : Option (Int32 × St) := letb (up2 gMo_76 0 27 ((gMo_76 0 27) + 1)) (fun gMo_7 => if s0_76 = 0 then (letb (up2 gMo_7 0 28 (gMo_7 0 28)) (fun gMo_9 => gb (isb s0_76) (some (s0_76, gMo_9)))) else (letb (up2 gMo_7 0 28 ((gMo_7 0 28) + 1)) (fun gMo_11 => gb (isb s0_76) (some (s0_76, gMo_11)))))
def f_Mo_shock_J75 (gMo_75 : St) : Option (Int32 × St) := f_Mo_shock_J76 0 gMo_75
def f_Mo_shock_J71 (gMo_71 : St) : Option (Int32 × St) := f_Mo_shock_J76 1 gMo_71
def f_Mo_shock_J28 (gMo : St) (p1 : Int32) (p2 : Int32) (s1_28 : Int32) : Option (Int32 × St) := xv2 (f_Mo_goes gMo s1_28 1 1) (fun r_3 gMo_4 => if r_3 = 0 then (some (0, gMo_4)) else (if gMo_4 0 26 = 0 then (f_Mo_shock_J75 gMo_4) else (if gMo_4 0 24 < p1 then (f_Mo_shock_J71 gMo_4) else (if p1 ≤ (gMo_4 0 24) / 2 then (f_Mo_shock_J75 gMo_4) else (if p2 ≤ gMo_4 0 25 then (f_Mo_shock_J75 gMo_4) else (f_Mo_shock_J71 gMo_4))))))
def f_Mo_shock_J27 (gMo : St) (p1 : Int32) (p2 : Int32) : Option (Int32 × St) := f_Mo_shock_J28 gMo p1 p2 0
def f_Mo_shock (gMo : St) (p1 : Int32) (p2 : Int32) : Option (Int32 × St) := xv1 (f_Mo_within p1 0 10000) (fun r_1 => if r_1 = 0 then (f_Mo_shock_J27 gMo p1 p2) else (xv1 (f_Mo_within p2 0 10000) (fun r_18 => if r_18 = 0 then (f_Mo_shock_J27 gMo p1 p2) else (f_Mo_shock_J28 gMo p1 p2 1))))
def f_Mo_route_X93 (p2 : Int32) (v3_93 : Int32) (v4_93 : Int32) (v5_93 : Int32) (gMo_93 : St) : Option (Int32 × St) := letb (up2 gMo_93 0 29 p2) (fun gMo_7 => some (v4_93, gMo_7))
def f_Mo_route_L44 (p2 : Int32) (kc_44 : Int32 → Int32 → Int32 → St → Option (Int32 × St)) (v3_44 : Int32) (v4_44 : Int32) (v5_44 : Int32) (gMo_44 : St) : Option (Int32 × St) := if p2 ≤ v5_44 then (f_Mo_route_X93 p2 v3_44 v4_44 v5_44 gMo_44) else (letb (((75 * v3_44) + 74) - ((75 * v3_44) + 74) / 65537 * 65537) (fun x_9 => gb (inb v5_44 50) (letb (up2 gMo_44 15 (v5_44 : Int32).toNatClampNeg (10 + (x_9 - x_9 / 91 * 91))) (fun gMo_11 => gb (inb v5_44 50) (letb (gMo_11 15 (v5_44 : Int32).toNatClampNeg) (fun x_13 => letb (v4_44 + x_13) (fun x_14 => letb (v5_44 + 1) (fun x_15 => kc_44 x_9 x_14 x_15 gMo_11))))))))
def f_Mo_route_J26 (gMo : St) (p1 : Int32) (p2 : Int32) (s1_26 : Int32) : Option (Int32 × St) := xv2 (f_Mo_goes gMo s1_26 1 1) (fun r_3 gMo_4 => if r_3 = 0 then (some (0, gMo_4)) else (it4 (f_Mo_route_L44 p2) FU p1 0 0 gMo_4))
def f_Mo_route_J25 (gMo : St) (p1 : Int32) (p2 : Int32) : Option (Int32 × St) := f_Mo_route_J26 gMo p1 p2 0
def f_Mo_route (gMo : St) (p1 : Int32) (p2 : Int32) : Option (Int32 × St) := xv1 (f_Mo_within p1 0 65536) (fun r_1 => if r_1 = 0 then (f_Mo_route_J25 gMo p1 p2) else (xv1 (f_Mo_within p2 1 50) (fun r_17 => if r_17 = 0 then (f_Mo_route_J25 gMo p1 p2) else (f_Mo_route_J26 gMo p1 p2 1))))
def f_Mo_drop_J18 (gMo : St) (p1 : Int32) (s1_18 : Int32) : Option (Int32 × St) := xv2 (f_Mo_goes gMo s1_18 1 1) (fun r_1 gMo_2 => if r_1 = 0 then (some (0, gMo_2)) else (gb (inb p1 50) (letb (gMo_2 15 (p1 : Int32).toNatClampNeg) (fun x_6 => some (x_6, gMo_2)))))
def f_Mo_drop_J17 (gMo : St) (p1 : Int32) : Option (Int32 × St) := f_Mo_drop_J18 gMo p1 0
def f_Mo_drop (gMo : St) (p1 : Int32) : Option (Int32 × St) := if p1 < 0 then (f_Mo_drop_J17 gMo p1) else (if gMo 0 29 ≤ p1 then (f_Mo_drop_J17 gMo p1) else (f_Mo_drop_J18 gMo p1 1))
def f_Mo_count_X52 (p1 : Int32) (v2_52 : Int32) (v3_52 : Int32) (gMo_52 : St) : Option (Int32 × St) := if p1 = 0 then (some (gMo_52 0 1, gMo_52)) else if p1 = 1 then (some (gMo_52 0 18, gMo_52)) else if p1 = 2 then (some (v2_52, gMo_52)) else if p1 = 3 then (some (gMo_52 0 21, gMo_52)) else if p1 = 4 then (some (gMo_52 0 27, gMo_52)) else (some (gMo_52 0 28, gMo_52))
def f_Mo_count_J45 (kc_21 : Int32 → Int32 → St → Option (Int32 × St)) (s0_45 : Int32) (v2_45 : Int32) (v3_45 : Int32) (gMo_45 : St) : Option (Int32 × St) := letb (v3_45 + 1) (fun x_15 => kc_21 s0_45 x_15 gMo_45)
def f_Mo_count_L21 (p1 : Int32) (kc_21 : Int32 → Int32 → St → Option (Int32 × St)) (v2_21 : Int32) (v3_21 : Int32) (gMo_21 : St) : Option (Int32 × St) := if gMo_21 0 18 ≤ v3_21 then (f_Mo_count_X52 p1 v2_21 v3_21 gMo_21) else (gb (inb v3_21 10) (letb (gMo_21 13 (v3_21 : Int32).toNatClampNeg) (fun x_14 => if x_14 = 0 then (f_Mo_count_J45 kc_21 v2_21 v2_21 v3_21 gMo_21) else (f_Mo_count_J45 kc_21 (v2_21 + 1) v2_21 v3_21 gMo_21))))
def f_Mo_count (gMo : St) (p1 : Int32) : Option (Int32 × St) := xv1 (f_Mo_within p1 0 5) (fun r_1 => xv2 (f_Mo_goes gMo r_1 1 1) (fun r_3 gMo_4 => if r_3 = 0 then (some (0, gMo_4)) else (it3 (f_Mo_count_L21 p1) FU 0 0 gMo_4)))
end
section
abbrev rm_Cc_requireRoom_r : Room := { frames := 0, cells := 0, slots := 0, locals := 0 }
set_option maxRecDepth 100000 in
set_option maxHeartbeats 4000000 in
theorem c_Cc_requireRoom_r (l : Launch) (D : va_G) (cI cZ cJ : ClassId)  (sz : Nat)  (p1 : Int32) (p2 : Int32)  (h : f_Cc_requireRoom p1 p2 = some (.inl ())) : MV l y_Cc_requireRoom b_Cc_requireRoom 2 (Option.none : Option Jvm.ClassFile.FieldType) rm_Cc_requireRoom_r D (TYS cI cZ cJ) [.int p1, .int p2] ([] : va_W) sz ([] : va_W) := by
  refine mv_start (own := R_Cc) (by decide +kernel) rfl (Nat.le_of_ble_eq_true rfl) (fun p e s m args below meth c A ls C0 hr hlk hP hD hS hl => ?_)
  obtain ⟨Q, hQ⟩ : ∃ Q, Q = QV below D (TYS cI cZ cJ) A ([] : va_W) args s := ⟨_, rfl⟩
  rw [← hQ]
  obtain ⟨hx, hb, -, hown, hts, hK, hE, -⟩ := id C0
  have hl : lv_has ls 2 [(0, .int p1), (1, .int p2)] := hl
  obtain ⟨H, hH⟩ : ∃ H, H = s.heap := ⟨_, rfl⟩
  have hP : va_P D vwCl ([] : va_W) H := by rw [hH]; exact hP
  have hS : va_S A s.heap H [] := by rw [hH]; exact hS
  rw [show W p l e rm_Cc_requireRoom_r s m args below meth c s.heap = W p l e rm_Cc_requireRoom_r s m args below meth c H by rw [hH]]
  generalize ([] : List Loc) = locs at hS ⊢
  unfold f_Cc_requireRoom at h
  refine lv_iload_n hx hb d_Cc_requireRoom_0 rfl (lv_at hl 0 rfl) ?_
  refine lv_iload_n hx hb d_Cc_requireRoom_1 rfl (lv_at hl 1 rfl) ?_
  refine lv_icmp_lt (tgt := 15) hx hb d_Cc_requireRoom_2 (by decide) (fun c_1 => ?_) (fun c_1 => ?_)
  · rw [if_pos c_1] at h
    cases h
    rw [hQ]
    exact mv_ret C0 hr hlk hP hD hS d_Cc_requireRoom_15
  · rw [if_neg c_1] at h
    cases h
abbrev rm_Cc_requireRoom_t : Room := { frames := 6, cells := 1, slots := 6, locals := 82 }
set_option maxRecDepth 100000 in
set_option maxHeartbeats 4000000 in
theorem c_Cc_requireRoom_t (l : Launch) (hltr : l.stackTraces = false) (D : va_G) (cI cZ cJ : ClassId)  (sz : Nat)  (p1 : Int32) (p2 : Int32) (E : String) (h : f_Cc_requireRoom p1 p2 = some (.inr E)) : MT l y_Cc_requireRoom b_Cc_requireRoom 2 (Option.none : Option Jvm.ClassFile.FieldType) rm_Cc_requireRoom_t D (TYS cI cZ cJ) [.int p1, .int p2] ([] : va_W) sz E := by
  refine mt_start (own := R_Cc) (by decide +kernel) rfl (Nat.le_of_ble_eq_true rfl) (fun p e s m args below meth c A ls C0 hAe hno hlk hP hD hS hl => ?_)
  obtain ⟨Q, hQ⟩ : ∃ Q, Q = QT below D (TYS cI cZ cJ) ([] : va_W) E args s := ⟨_, rfl⟩
  rw [← hQ]
  obtain ⟨hx, hb, -, hown, hts, hK, hE, -⟩ := id C0
  have hl : lv_has ls 2 [(0, .int p1), (1, .int p2)] := hl
  obtain ⟨H, hH⟩ : ∃ H, H = s.heap := ⟨_, rfl⟩
  have hP : va_P D vwCl ([] : va_W) H := by rw [hH]; exact hP
  have hS : va_S A s.heap H [] := by rw [hH]; exact hS
  rw [show W p l e rm_Cc_requireRoom_t s m args below meth c s.heap = W p l e rm_Cc_requireRoom_t s m args below meth c H by rw [hH]]
  generalize ([] : List Loc) = locs at hS ⊢
  unfold f_Cc_requireRoom at h
  refine lv_iload_n hx hb d_Cc_requireRoom_0 rfl (lv_at hl 0 rfl) ?_
  refine lv_iload_n hx hb d_Cc_requireRoom_1 rfl (lv_at hl 1 rfl) ?_
  refine lv_icmp_lt (tgt := 15) hx hb d_Cc_requireRoom_2 (by decide) (fun c_1 => ?_) (fun c_1 => ?_)
  · rw [if_pos c_1] at h
    cases h
  · rw [if_neg c_1] at h
    cases h
    rw [hQ]
    exact x_new C0 hAe hltr hno hlk hP hD hS hl.1 t_Cc_163 d_Cc_requireRoom_5 d_Cc_requireRoom_8 d_Cc_requireRoom_9 d_Cc_requireRoom_11 d_Cc_requireRoom_14 ⟨by decide, Nat.le_of_ble_eq_true rfl, by decide, by decide⟩
abbrev rm_Cc_requireRange_r : Room := { frames := 0, cells := 0, slots := 0, locals := 0 }
set_option maxRecDepth 100000 in
set_option maxHeartbeats 4000000 in
theorem c_Cc_requireRange_r (l : Launch) (D : va_G) (cI cZ cJ : ClassId)  (sz : Nat)  (p1 : Int32) (p2 : Int32) (p3 : Int32)  (h : f_Cc_requireRange p1 p2 p3 = some (.inl ())) : MV l y_Cc_requireRange b_Cc_requireRange 3 (Option.none : Option Jvm.ClassFile.FieldType) rm_Cc_requireRange_r D (TYS cI cZ cJ) [.int p1, .int p2, .int p3] ([] : va_W) sz ([] : va_W) := by
  refine mv_start (own := R_Cc) (by decide +kernel) rfl (Nat.le_of_ble_eq_true rfl) (fun p e s m args below meth c A ls C0 hr hlk hP hD hS hl => ?_)
  obtain ⟨Q, hQ⟩ : ∃ Q, Q = QV below D (TYS cI cZ cJ) A ([] : va_W) args s := ⟨_, rfl⟩
  rw [← hQ]
  obtain ⟨hx, hb, -, hown, hts, hK, hE, -⟩ := id C0
  have hl : lv_has ls 3 [(0, .int p1), (1, .int p2), (2, .int p3)] := hl
  obtain ⟨H, hH⟩ : ∃ H, H = s.heap := ⟨_, rfl⟩
  have hP : va_P D vwCl ([] : va_W) H := by rw [hH]; exact hP
  have hS : va_S A s.heap H [] := by rw [hH]; exact hS
  rw [show W p l e rm_Cc_requireRange_r s m args below meth c s.heap = W p l e rm_Cc_requireRange_r s m args below meth c H by rw [hH]]
  generalize ([] : List Loc) = locs at hS ⊢
  unfold f_Cc_requireRange at h
  refine lv_iload_n hx hb d_Cc_requireRange_0 rfl (lv_at hl 0 rfl) ?_
  refine lv_iload_n hx hb d_Cc_requireRange_1 rfl (lv_at hl 1 rfl) ?_
  have K10 : ∀ (H : Heap) (locs : List Loc) (ls : Array Slot), va_P D vwCl ([] : va_W) H → va_D A ([] : va_W) → va_S A s.heap H locs → lv_has ls 3 [(0, .int p1), (1, .int p2), (2, .int p3)] → f_Cc_requireRange_J10  = some (.inl ()) → W p l e rm_Cc_requireRange_r s m args below meth c H locs 0 0 Q (F0 m 10 ls []) := by
    intro  H locs ls hP hD hS hl h
    unfold f_Cc_requireRange_J10 at h
    cases h
  refine lv_icmp_lt (tgt := 10) hx hb d_Cc_requireRange_2 (by decide) (fun c_1 => ?_) (fun c_1 => ?_)
  · rw [if_pos c_1] at h
    exact K10  H locs ls hP hD hS (lv_sub hl [0, 1, 2] rfl) h
  · rw [if_neg c_1] at h
    refine lv_iload_n hx hb d_Cc_requireRange_5 rfl (lv_at hl 0 rfl) ?_
    refine lv_iload_n hx hb d_Cc_requireRange_6 rfl (lv_at hl 2 rfl) ?_
    refine lv_icmp_le (tgt := 20) hx hb d_Cc_requireRange_7 (by decide) (fun c_2 => ?_) (fun c_2 => ?_)
    · rw [if_pos c_2] at h
      cases h
      rw [hQ]
      exact mv_ret C0 hr hlk hP hD hS d_Cc_requireRange_20
    · rw [if_neg c_2] at h
      exact K10  H locs ls hP hD hS (lv_sub hl [0, 1, 2] rfl) h
abbrev rm_Cc_requireRange_t : Room := { frames := 6, cells := 1, slots := 6, locals := 82 }
set_option maxRecDepth 100000 in
set_option maxHeartbeats 4000000 in
theorem c_Cc_requireRange_t (l : Launch) (hltr : l.stackTraces = false) (D : va_G) (cI cZ cJ : ClassId)  (sz : Nat)  (p1 : Int32) (p2 : Int32) (p3 : Int32) (E : String) (h : f_Cc_requireRange p1 p2 p3 = some (.inr E)) : MT l y_Cc_requireRange b_Cc_requireRange 3 (Option.none : Option Jvm.ClassFile.FieldType) rm_Cc_requireRange_t D (TYS cI cZ cJ) [.int p1, .int p2, .int p3] ([] : va_W) sz E := by
  refine mt_start (own := R_Cc) (by decide +kernel) rfl (Nat.le_of_ble_eq_true rfl) (fun p e s m args below meth c A ls C0 hAe hno hlk hP hD hS hl => ?_)
  obtain ⟨Q, hQ⟩ : ∃ Q, Q = QT below D (TYS cI cZ cJ) ([] : va_W) E args s := ⟨_, rfl⟩
  rw [← hQ]
  obtain ⟨hx, hb, -, hown, hts, hK, hE, -⟩ := id C0
  have hl : lv_has ls 3 [(0, .int p1), (1, .int p2), (2, .int p3)] := hl
  obtain ⟨H, hH⟩ : ∃ H, H = s.heap := ⟨_, rfl⟩
  have hP : va_P D vwCl ([] : va_W) H := by rw [hH]; exact hP
  have hS : va_S A s.heap H [] := by rw [hH]; exact hS
  rw [show W p l e rm_Cc_requireRange_t s m args below meth c s.heap = W p l e rm_Cc_requireRange_t s m args below meth c H by rw [hH]]
  generalize ([] : List Loc) = locs at hS ⊢
  unfold f_Cc_requireRange at h
  refine lv_iload_n hx hb d_Cc_requireRange_0 rfl (lv_at hl 0 rfl) ?_
  refine lv_iload_n hx hb d_Cc_requireRange_1 rfl (lv_at hl 1 rfl) ?_
  have K10 : ∀ (H : Heap) (locs : List Loc) (ls : Array Slot), va_P D vwCl ([] : va_W) H → va_D A ([] : va_W) → va_S A s.heap H locs → lv_has ls 3 [(0, .int p1), (1, .int p2), (2, .int p3)] → f_Cc_requireRange_J10  = some (.inr E) → W p l e rm_Cc_requireRange_t s m args below meth c H locs 0 0 Q (F0 m 10 ls []) := by
    intro  H locs ls hP hD hS hl h
    unfold f_Cc_requireRange_J10 at h
    cases h
    rw [hQ]
    exact x_new C0 hAe hltr hno hlk hP hD hS hl.1 t_Cc_158 d_Cc_requireRange_10 d_Cc_requireRange_13 d_Cc_requireRange_14 d_Cc_requireRange_16 d_Cc_requireRange_19 ⟨by decide, Nat.le_of_ble_eq_true rfl, by decide, by decide⟩
  refine lv_icmp_lt (tgt := 10) hx hb d_Cc_requireRange_2 (by decide) (fun c_1 => ?_) (fun c_1 => ?_)
  · rw [if_pos c_1] at h
    exact K10  H locs ls hP hD hS (lv_sub hl [0, 1, 2] rfl) h
  · rw [if_neg c_1] at h
    refine lv_iload_n hx hb d_Cc_requireRange_5 rfl (lv_at hl 0 rfl) ?_
    refine lv_iload_n hx hb d_Cc_requireRange_6 rfl (lv_at hl 2 rfl) ?_
    refine lv_icmp_le (tgt := 20) hx hb d_Cc_requireRange_7 (by decide) (fun c_2 => ?_) (fun c_2 => ?_)
    · rw [if_pos c_2] at h
      cases h
    · rw [if_neg c_2] at h
      exact K10  H locs ls hP hD hS (lv_sub hl [0, 1, 2] rfl) h
abbrev rm_Cc_requireIndex_r : Room := { frames := 0, cells := 0, slots := 0, locals := 0 }
set_option maxRecDepth 100000 in
set_option maxHeartbeats 4000000 in
theorem c_Cc_requireIndex_r (l : Launch) (D : va_G) (cI cZ cJ : ClassId)  (sz : Nat)  (p1 : Int32) (p2 : Int32)  (h : f_Cc_requireIndex p1 p2 = some (.inl ())) : MV l y_Cc_requireIndex b_Cc_requireIndex 2 (Option.none : Option Jvm.ClassFile.FieldType) rm_Cc_requireIndex_r D (TYS cI cZ cJ) [.int p1, .int p2] ([] : va_W) sz ([] : va_W) := by
  refine mv_start (own := R_Cc) (by decide +kernel) rfl (Nat.le_of_ble_eq_true rfl) (fun p e s m args below meth c A ls C0 hr hlk hP hD hS hl => ?_)
  obtain ⟨Q, hQ⟩ : ∃ Q, Q = QV below D (TYS cI cZ cJ) A ([] : va_W) args s := ⟨_, rfl⟩
  rw [← hQ]
  obtain ⟨hx, hb, -, hown, hts, hK, hE, -⟩ := id C0
  have hl : lv_has ls 2 [(0, .int p1), (1, .int p2)] := hl
  obtain ⟨H, hH⟩ : ∃ H, H = s.heap := ⟨_, rfl⟩
  have hP : va_P D vwCl ([] : va_W) H := by rw [hH]; exact hP
  have hS : va_S A s.heap H [] := by rw [hH]; exact hS
  rw [show W p l e rm_Cc_requireIndex_r s m args below meth c s.heap = W p l e rm_Cc_requireIndex_r s m args below meth c H by rw [hH]]
  generalize ([] : List Loc) = locs at hS ⊢
  unfold f_Cc_requireIndex at h
  refine lv_iload_n hx hb d_Cc_requireIndex_0 rfl (lv_at hl 0 rfl) ?_
  have K9 : ∀ (H : Heap) (locs : List Loc) (ls : Array Slot), va_P D vwCl ([] : va_W) H → va_D A ([] : va_W) → va_S A s.heap H locs → lv_has ls 2 [(0, .int p1), (1, .int p2)] → f_Cc_requireIndex_J9  = some (.inl ()) → W p l e rm_Cc_requireIndex_r s m args below meth c H locs 0 0 Q (F0 m 9 ls []) := by
    intro  H locs ls hP hD hS hl h
    unfold f_Cc_requireIndex_J9 at h
    cases h
  refine lv_if_lt (tgt := 9) hx hb d_Cc_requireIndex_1 (by decide) (fun c_1 => ?_) (fun c_1 => ?_)
  · rw [if_pos c_1] at h
    exact K9  H locs ls hP hD hS (lv_sub hl [0, 1] rfl) h
  · rw [if_neg c_1] at h
    refine lv_iload_n hx hb d_Cc_requireIndex_4 rfl (lv_at hl 0 rfl) ?_
    refine lv_iload_n hx hb d_Cc_requireIndex_5 rfl (lv_at hl 1 rfl) ?_
    refine lv_icmp_lt (tgt := 19) hx hb d_Cc_requireIndex_6 (by decide) (fun c_2 => ?_) (fun c_2 => ?_)
    · rw [if_pos c_2] at h
      cases h
      rw [hQ]
      exact mv_ret C0 hr hlk hP hD hS d_Cc_requireIndex_19
    · rw [if_neg c_2] at h
      exact K9  H locs ls hP hD hS (lv_sub hl [0, 1] rfl) h
abbrev rm_Cc_requireIndex_t : Room := { frames := 6, cells := 1, slots := 6, locals := 82 }
set_option maxRecDepth 100000 in
set_option maxHeartbeats 4000000 in
theorem c_Cc_requireIndex_t (l : Launch) (hltr : l.stackTraces = false) (D : va_G) (cI cZ cJ : ClassId)  (sz : Nat)  (p1 : Int32) (p2 : Int32) (E : String) (h : f_Cc_requireIndex p1 p2 = some (.inr E)) : MT l y_Cc_requireIndex b_Cc_requireIndex 2 (Option.none : Option Jvm.ClassFile.FieldType) rm_Cc_requireIndex_t D (TYS cI cZ cJ) [.int p1, .int p2] ([] : va_W) sz E := by
  refine mt_start (own := R_Cc) (by decide +kernel) rfl (Nat.le_of_ble_eq_true rfl) (fun p e s m args below meth c A ls C0 hAe hno hlk hP hD hS hl => ?_)
  obtain ⟨Q, hQ⟩ : ∃ Q, Q = QT below D (TYS cI cZ cJ) ([] : va_W) E args s := ⟨_, rfl⟩
  rw [← hQ]
  obtain ⟨hx, hb, -, hown, hts, hK, hE, -⟩ := id C0
  have hl : lv_has ls 2 [(0, .int p1), (1, .int p2)] := hl
  obtain ⟨H, hH⟩ : ∃ H, H = s.heap := ⟨_, rfl⟩
  have hP : va_P D vwCl ([] : va_W) H := by rw [hH]; exact hP
  have hS : va_S A s.heap H [] := by rw [hH]; exact hS
  rw [show W p l e rm_Cc_requireIndex_t s m args below meth c s.heap = W p l e rm_Cc_requireIndex_t s m args below meth c H by rw [hH]]
  generalize ([] : List Loc) = locs at hS ⊢
  unfold f_Cc_requireIndex at h
  refine lv_iload_n hx hb d_Cc_requireIndex_0 rfl (lv_at hl 0 rfl) ?_
  have K9 : ∀ (H : Heap) (locs : List Loc) (ls : Array Slot), va_P D vwCl ([] : va_W) H → va_D A ([] : va_W) → va_S A s.heap H locs → lv_has ls 2 [(0, .int p1), (1, .int p2)] → f_Cc_requireIndex_J9  = some (.inr E) → W p l e rm_Cc_requireIndex_t s m args below meth c H locs 0 0 Q (F0 m 9 ls []) := by
    intro  H locs ls hP hD hS hl h
    unfold f_Cc_requireIndex_J9 at h
    cases h
    rw [hQ]
    exact x_new C0 hAe hltr hno hlk hP hD hS hl.1 t_Cc_154 d_Cc_requireIndex_9 d_Cc_requireIndex_12 d_Cc_requireIndex_13 d_Cc_requireIndex_15 d_Cc_requireIndex_18 ⟨by decide, Nat.le_of_ble_eq_true rfl, by decide, by decide⟩
  refine lv_if_lt (tgt := 9) hx hb d_Cc_requireIndex_1 (by decide) (fun c_1 => ?_) (fun c_1 => ?_)
  · rw [if_pos c_1] at h
    exact K9  H locs ls hP hD hS (lv_sub hl [0, 1] rfl) h
  · rw [if_neg c_1] at h
    refine lv_iload_n hx hb d_Cc_requireIndex_4 rfl (lv_at hl 0 rfl) ?_
    refine lv_iload_n hx hb d_Cc_requireIndex_5 rfl (lv_at hl 1 rfl) ?_
    refine lv_icmp_lt (tgt := 19) hx hb d_Cc_requireIndex_6 (by decide) (fun c_2 => ?_) (fun c_2 => ?_)
    · rw [if_pos c_2] at h
      cases h
    · rw [if_neg c_2] at h
      exact K9  H locs ls hP hD hS (lv_sub hl [0, 1] rfl) h
abbrev rm_Ma_floorDiv_r : Room := { frames := 0, cells := 0, slots := 0, locals := 0 }
set_option maxRecDepth 100000 in
set_option maxHeartbeats 4000000 in
theorem c_Ma_floorDiv_r (l : Launch) (D : va_G) (cI cZ cJ : ClassId)  (sz : Nat)  (p1 : Int32) (p2 : Int32) (r : Int32) (h : f_Ma_floorDiv p1 p2 = some r) : MI l y_Ma_floorDiv b_Ma_floorDiv 3 (some .int) rm_Ma_floorDiv_r D (TYS cI cZ cJ) [.int p1, .int p2] ([] : va_W) sz r ([] : va_W) := by
  refine mif_start (own := R_Ma) (by decide +kernel) rfl (Nat.le_of_ble_eq_true rfl) (fun p e s m args below meth c A ls C0 hr hlk hP hD hS hl => ?_)
  obtain ⟨Q, hQ⟩ : ∃ Q, Q = QI below D (TYS cI cZ cJ) A ([] : va_W) r args s := ⟨_, rfl⟩
  rw [← hQ]
  obtain ⟨hx, hb, -, hown, hts, hK, hE, -⟩ := id C0
  have hl : lv_has ls 3 [(0, .int p1), (1, .int p2)] := hl
  obtain ⟨H, hH⟩ : ∃ H, H = s.heap := ⟨_, rfl⟩
  have hP : va_P D vwCl ([] : va_W) H := by rw [hH]; exact hP
  have hS : va_S A s.heap H [] := by rw [hH]; exact hS
  rw [show W p l e rm_Ma_floorDiv_r s m args below meth c s.heap = W p l e rm_Ma_floorDiv_r s m args below meth c H by rw [hH]]
  generalize ([] : List Loc) = locs at hS ⊢
  unfold f_Ma_floorDiv at h
  refine lv_iload_n hx hb d_Ma_floorDiv_0 rfl (lv_at hl 0 rfl) ?_
  refine lv_iload_n hx hb d_Ma_floorDiv_1 rfl (lv_at hl 1 rfl) ?_
  obtain ⟨hz_1, h⟩ := gb_i h
  refine lv_idiv hx hb d_Ma_floorDiv_2 (nz_i hz_1) ?_
  obtain ⟨x_2, ex_2, h⟩ := letb_i h
  refine lv_topn ex_2 ?_
  refine lv_istore_n (lv' := [(2, .int x_2), (0, .int p1), (1, .int p2)]) hx hb d_Ma_floorDiv_3 rfl hl (by decide) rfl (fun ls hl => ?_)
  refine lv_iload_n hx hb d_Ma_floorDiv_4 rfl (lv_at hl 1 rfl) ?_
  refine lv_iload_n hx hb d_Ma_floorDiv_5 rfl (lv_at hl 2 rfl) ?_
  refine lv_ixor hx hb d_Ma_floorDiv_6 ?_
  refine lv_if_ge (tgt := 21) hx hb d_Ma_floorDiv_7 (by decide) (fun c_3 => ?_) (fun c_3 => ?_)
  · rw [if_pos c_3] at h
    refine lv_iload_n hx hb d_Ma_floorDiv_21 rfl (lv_at hl 0 rfl) ?_
    cases h
    rw [hQ]
    exact mi_ret C0 hr rfl hlk hP hD hS d_Ma_floorDiv_22
  · rw [if_neg c_3] at h
    refine lv_iload_n hx hb d_Ma_floorDiv_10 rfl (lv_at hl 0 rfl) ?_
    refine lv_iload_n hx hb d_Ma_floorDiv_11 rfl (lv_at hl 2 rfl) ?_
    refine lv_imul hx hb d_Ma_floorDiv_12 ?_
    refine lv_iload_n hx hb d_Ma_floorDiv_13 rfl (lv_at hl 1 rfl) ?_
    refine lv_icmp_eq (tgt := 21) hx hb d_Ma_floorDiv_14 (by decide) (fun c_4 => ?_) (fun c_4 => ?_)
    · rw [if_pos c_4] at h
      refine lv_iload_n hx hb d_Ma_floorDiv_21 rfl (lv_at hl 0 rfl) ?_
      cases h
      rw [hQ]
      exact mi_ret C0 hr rfl hlk hP hD hS d_Ma_floorDiv_22
    · rw [if_neg c_4] at h
      refine lv_iload_n hx hb d_Ma_floorDiv_17 rfl (lv_at hl 0 rfl) ?_
      refine lv_iconst (v := 1) hx hb d_Ma_floorDiv_18 (by decide) ?_
      refine lv_isub hx hb d_Ma_floorDiv_19 ?_
      cases h
      rw [hQ]
      exact mi_ret C0 hr rfl hlk hP hD hS d_Ma_floorDiv_20
abbrev rm_In_bitCount_r : Room := { frames := 0, cells := 0, slots := 0, locals := 0 }
set_option maxRecDepth 100000 in
set_option maxHeartbeats 4000000 in
theorem c_In_bitCount_r (l : Launch) (D : va_G) (cI cZ cJ : ClassId)  (sz : Nat)  (p1 : Int32) (r : Int32) (h : f_In_bitCount p1 = some r) : MI l y_In_bitCount b_In_bitCount 1 (some .int) rm_In_bitCount_r D (TYS cI cZ cJ) [.int p1] ([] : va_W) sz r ([] : va_W) := by
  refine mi_start (own := R_In) (by decide +kernel) rfl (Nat.le_of_ble_eq_true rfl) (fun p e s m args below meth c A ls C0 hr hlk hP hD hS hl => ?_)
  obtain ⟨Q, hQ⟩ : ∃ Q, Q = QI below D (TYS cI cZ cJ) A ([] : va_W) r args s := ⟨_, rfl⟩
  rw [← hQ]
  obtain ⟨hx, hb, -, hown, hts, hK, hE, -⟩ := id C0
  have hl : lv_has ls 1 [(0, .int p1)] := hl
  obtain ⟨H, hH⟩ : ∃ H, H = s.heap := ⟨_, rfl⟩
  have hP : va_P D vwCl ([] : va_W) H := by rw [hH]; exact hP
  have hS : va_S A s.heap H [] := by rw [hH]; exact hS
  rw [show W p l e rm_In_bitCount_r s m args below meth c s.heap = W p l e rm_In_bitCount_r s m args below meth c H by rw [hH]]
  generalize ([] : List Loc) = locs at hS ⊢
  unfold f_In_bitCount at h
  refine lv_iload_n hx hb d_In_bitCount_0 rfl (lv_at hl 0 rfl) ?_
  refine lv_iload_n hx hb d_In_bitCount_1 rfl (lv_at hl 0 rfl) ?_
  refine lv_iconst (v := 1) hx hb d_In_bitCount_2 (by decide) ?_
  refine lv_iushr (v := ((p1 : Int32).toUInt32 >>> ((1 : Int32).toUInt32 &&& Int32.toUInt32 31)).toInt32) hx hb d_In_bitCount_3 rfl ?_
  refine lv_ldcw hx hb hown (hts _ m_489) d_In_bitCount_4 ?_
  refine lv_iand hx hb d_In_bitCount_7 ?_
  refine lv_isub hx hb d_In_bitCount_8 ?_
  obtain ⟨x_1, ex_1, h⟩ := letb_i h
  refine lv_topn ex_1 ?_
  refine lv_istore_n (lv' := [(0, .int x_1)]) hx hb d_In_bitCount_9 rfl hl (by decide) rfl (fun ls hl => ?_)
  refine lv_iload_n hx hb d_In_bitCount_10 rfl (lv_at hl 0 rfl) ?_
  refine lv_ldcw hx hb hown (hts _ m_490) d_In_bitCount_11 ?_
  refine lv_iand hx hb d_In_bitCount_14 ?_
  refine lv_iload_n hx hb d_In_bitCount_15 rfl (lv_at hl 0 rfl) ?_
  refine lv_iconst (v := 2) hx hb d_In_bitCount_16 (by decide) ?_
  refine lv_iushr (v := ((x_1 : Int32).toUInt32 >>> ((2 : Int32).toUInt32 &&& Int32.toUInt32 31)).toInt32) hx hb d_In_bitCount_17 rfl ?_
  refine lv_ldcw hx hb hown (hts _ m_490) d_In_bitCount_18 ?_
  refine lv_iand hx hb d_In_bitCount_21 ?_
  refine lv_iadd hx hb d_In_bitCount_22 ?_
  obtain ⟨x_2, ex_2, h⟩ := letb_i h
  refine lv_topn ex_2 ?_
  refine lv_istore_n (lv' := [(0, .int x_2)]) hx hb d_In_bitCount_23 rfl hl (by decide) rfl (fun ls hl => ?_)
  refine lv_iload_n hx hb d_In_bitCount_24 rfl (lv_at hl 0 rfl) ?_
  refine lv_iload_n hx hb d_In_bitCount_25 rfl (lv_at hl 0 rfl) ?_
  refine lv_iconst (v := 4) hx hb d_In_bitCount_26 (by decide) ?_
  refine lv_iushr (v := ((x_2 : Int32).toUInt32 >>> ((4 : Int32).toUInt32 &&& Int32.toUInt32 31)).toInt32) hx hb d_In_bitCount_27 rfl ?_
  refine lv_iadd hx hb d_In_bitCount_28 ?_
  refine lv_ldcw hx hb hown (hts _ m_491) d_In_bitCount_29 ?_
  refine lv_iand hx hb d_In_bitCount_32 ?_
  obtain ⟨x_3, ex_3, h⟩ := letb_i h
  refine lv_topn ex_3 ?_
  refine lv_istore_n (lv' := [(0, .int x_3)]) hx hb d_In_bitCount_33 rfl hl (by decide) rfl (fun ls hl => ?_)
  refine lv_iload_n hx hb d_In_bitCount_34 rfl (lv_at hl 0 rfl) ?_
  refine lv_iload_n hx hb d_In_bitCount_35 rfl (lv_at hl 0 rfl) ?_
  refine lv_bipush (v := 8) hx hb d_In_bitCount_36 (by decide) ?_
  refine lv_iushr (v := ((x_3 : Int32).toUInt32 >>> ((8 : Int32).toUInt32 &&& Int32.toUInt32 31)).toInt32) hx hb d_In_bitCount_38 rfl ?_
  refine lv_iadd hx hb d_In_bitCount_39 ?_
  obtain ⟨x_4, ex_4, h⟩ := letb_i h
  refine lv_topn ex_4 ?_
  refine lv_istore_n (lv' := [(0, .int x_4)]) hx hb d_In_bitCount_40 rfl hl (by decide) rfl (fun ls hl => ?_)
  refine lv_iload_n hx hb d_In_bitCount_41 rfl (lv_at hl 0 rfl) ?_
  refine lv_iload_n hx hb d_In_bitCount_42 rfl (lv_at hl 0 rfl) ?_
  refine lv_bipush (v := 16) hx hb d_In_bitCount_43 (by decide) ?_
  refine lv_iushr (v := ((x_4 : Int32).toUInt32 >>> ((16 : Int32).toUInt32 &&& Int32.toUInt32 31)).toInt32) hx hb d_In_bitCount_45 rfl ?_
  refine lv_iadd hx hb d_In_bitCount_46 ?_
  obtain ⟨x_5, ex_5, h⟩ := letb_i h
  refine lv_topn ex_5 ?_
  refine lv_istore_n (lv' := [(0, .int x_5)]) hx hb d_In_bitCount_47 rfl hl (by decide) rfl (fun ls hl => ?_)
  refine lv_iload_n hx hb d_In_bitCount_48 rfl (lv_at hl 0 rfl) ?_
  refine lv_bipush (v := 63) hx hb d_In_bitCount_49 (by decide) ?_
  refine lv_iand hx hb d_In_bitCount_51 ?_
  cases h
  rw [hQ]
  exact mi_ret C0 hr rfl hlk hP hD hS d_In_bitCount_52
abbrev rm_Ma_max_r : Room := { frames := 0, cells := 0, slots := 0, locals := 0 }
set_option maxRecDepth 100000 in
set_option maxHeartbeats 4000000 in
theorem c_Ma_max_r (l : Launch) (D : va_G) (cI cZ cJ : ClassId)  (sz : Nat)  (p1 : Int32) (p2 : Int32) (r : Int32) (h : f_Ma_max p1 p2 = some r) : MI l y_Ma_max b_Ma_max 2 (some .int) rm_Ma_max_r D (TYS cI cZ cJ) [.int p1, .int p2] ([] : va_W) sz r ([] : va_W) := by
  refine mif_start (own := R_Ma) (by decide +kernel) rfl (Nat.le_of_ble_eq_true rfl) (fun p e s m args below meth c A ls C0 hr hlk hP hD hS hl => ?_)
  obtain ⟨Q, hQ⟩ : ∃ Q, Q = QI below D (TYS cI cZ cJ) A ([] : va_W) r args s := ⟨_, rfl⟩
  rw [← hQ]
  obtain ⟨hx, hb, -, hown, hts, hK, hE, -⟩ := id C0
  have hl : lv_has ls 2 [(0, .int p1), (1, .int p2)] := hl
  obtain ⟨H, hH⟩ : ∃ H, H = s.heap := ⟨_, rfl⟩
  have hP : va_P D vwCl ([] : va_W) H := by rw [hH]; exact hP
  have hS : va_S A s.heap H [] := by rw [hH]; exact hS
  rw [show W p l e rm_Ma_max_r s m args below meth c s.heap = W p l e rm_Ma_max_r s m args below meth c H by rw [hH]]
  generalize ([] : List Loc) = locs at hS ⊢
  unfold f_Ma_max at h
  refine lv_iload_n hx hb d_Ma_max_0 rfl (lv_at hl 0 rfl) ?_
  refine lv_iload_n hx hb d_Ma_max_1 rfl (lv_at hl 1 rfl) ?_
  refine lv_icmp_lt (tgt := 9) hx hb d_Ma_max_2 (by decide) (fun c_1 => ?_) (fun c_1 => ?_)
  · rw [if_pos c_1] at h
    refine lv_iload_n hx hb d_Ma_max_9 rfl (lv_at hl 1 rfl) ?_
    cases h
    rw [hQ]
    exact mi_ret C0 hr rfl hlk hP hD hS d_Ma_max_10
  · rw [if_neg c_1] at h
    refine lv_iload_n hx hb d_Ma_max_5 rfl (lv_at hl 0 rfl) ?_
    refine lv_goto (tgt := 10) hx hb d_Ma_max_6 (by decide) ?_
    cases h
    rw [hQ]
    exact mi_ret C0 hr rfl hlk hP hD hS d_Ma_max_10
end
section
abbrev rm_Ai_setLag_r : Room := { frames := 1, cells := 0, slots := 0, locals := 22 }
set_option maxRecDepth 100000 in
set_option maxHeartbeats 4000000 in
theorem c_Ai_setLag_r (l : Launch) (D : va_G) (cI cZ cJ : ClassId) (xAi : Nat → Nat) (sz : Nat) (gAi : St) (p1 : Int32) (r : Int32) (gAi1 : St) (h : f_Ai_setLag gAi p1 = some (.inl (r, gAi1))) : MI l y_Ai_setLag b_Ai_setLag 3 (some .int) rm_Ai_setLag_r D (TYS cI cZ cJ) [.ref (xAi 0), .int p1] (wAi xAi cI cZ gAi) sz r (wAi xAi cI cZ gAi1) := by
  refine mi_start (own := R_Ai) (by decide +kernel) rfl (Nat.le_of_ble_eq_true rfl) (fun p e s m args below meth c A ls C0 hr hlk hP hD hS hl => ?_)
  obtain ⟨Q, hQ⟩ : ∃ Q, Q = QI below D (TYS cI cZ cJ) A (wAi xAi cI cZ gAi1) r args s := ⟨_, rfl⟩
  rw [← hQ]
  obtain ⟨hx, hb, -, hown, hts, hK, hE, -⟩ := id C0
  have hl : lv_has ls 3 [(0, .ref (xAi 0)), (1, .int p1)] := hl
  obtain ⟨H, hH⟩ : ∃ H, H = s.heap := ⟨_, rfl⟩
  have hP : va_P D vwCl (wAi xAi cI cZ gAi) H := by rw [hH]; exact hP
  have hS : va_S A s.heap H [] := by rw [hH]; exact hS
  rw [show W p l e rm_Ai_setLag_r s m args below meth c s.heap = W p l e rm_Ai_setLag_r s m args below meth c H by rw [hH]]
  generalize ([] : List Loc) = locs at hS ⊢
  unfold f_Ai_setLag at h
  refine lv_iload_n hx hb d_Ai_setLag_0 rfl (lv_at hl 1 rfl) ?_
  refine lv_iconst (v := 1) hx hb d_Ai_setLag_1 (by decide) ?_
  refine lv_bipush (v := 100) hx hb d_Ai_setLag_2 (by decide) ?_
  obtain ⟨hc_1, h⟩ | ⟨E9, hc_1, h⟩ := xc0_i h
  rotate_left
  · cases h
  refine cNv (As := [.int p1, .int 1, .int 100]) (rest := []) C0 hP hD hS hl.1 [] (c_Cc_requireRange_r l D cI cZ cJ  H.size p1 1 100 hc_1) k_Cc_requireRange (List.mem_of_getElem? (i := 11) rfl) rfl rfl rfl ⟨by decide, by decide⟩ ⟨rfl, rfl⟩ rfl (Nat.le_of_ble_eq_true rfl) d_Ai_setLag_4 ⟨Nat.zero_le _, Nat.zero_le _⟩ (fun H locs hP hD hS => ?_)
  have hP : va_P D vwCl (wAi xAi cI cZ gAi) H := hP
  have hD : va_D A (wAi xAi cI cZ gAi) := hD
  refine lv_aload_n hx hb d_Ai_setLag_7 rfl (lv_at hl 0 rfl) ?_
  refine va_get (ci := 0) (v := .int (gAi 0 2)) (C := R_Ai) (T := F_Ai) (N := 3) hx hb hts i_Ai hown hK hP 0 rfl rfl 2 (by decide) (hts _ m_164) (fun _ h9 => h9) rfl d_Ai_setLag_8 ?_
  obtain ⟨x_2, ex_2, h⟩ := letb_i h
  refine lv_topn ex_2 ?_
  refine lv_istore_n (lv' := [(2, .int x_2), (0, .ref (xAi 0)), (1, .int p1)]) hx hb d_Ai_setLag_11 rfl hl (by decide) rfl (fun ls hl => ?_)
  refine lv_aload_n hx hb d_Ai_setLag_12 rfl (lv_at hl 1 rfl) ?_
  refine lv_iload_n hx hb d_Ai_setLag_13 rfl (lv_at hl 2 rfl) ?_
  refine va_put (ci := 0) (v := .int p1) (ty := .int) (C := R_Ai) (T := F_Ai) (N := 3) hx hb hts i_Ai t_Ai o_Ai n_Ai hown hK hP hD hS 0 rfl rfl 2 (by decide) (hts _ m_164) (fun _ h9 => h9) rfl (by decide +kernel) rfl rfl (Nat.le_of_ble_eq_true rfl) d_Ai_setLag_14 (fun H locs hP hD hS => ?_)
  obtain ⟨gAi_3, egAi_3, h⟩ := letb_i h
  have hP : va_P D vwCl (wAi xAi cI cZ gAi_3) H := by rw [egAi_3]; exact hP
  have hD : va_D A (wAi xAi cI cZ gAi_3) := by rw [egAi_3]; exact hD
  refine lv_iload_n hx hb d_Ai_setLag_17 rfl (lv_at hl 0 rfl) ?_
  cases h
  rw [hQ]
  exact mi_ret C0 hr rfl hlk hP hD hS d_Ai_setLag_18
abbrev rm_Ai_setLag_t : Room := { frames := 7, cells := 1, slots := 6, locals := 104 }
set_option maxRecDepth 100000 in
set_option maxHeartbeats 4000000 in
theorem c_Ai_setLag_t (l : Launch) (hltr : l.stackTraces = false) (D : va_G) (cI cZ cJ : ClassId) (xAi : Nat → Nat) (sz : Nat) (gAi : St) (p1 : Int32) (E : String) (h : f_Ai_setLag gAi p1 = some (.inr E)) : MT l y_Ai_setLag b_Ai_setLag 3 (some .int) rm_Ai_setLag_t D (TYS cI cZ cJ) [.ref (xAi 0), .int p1] (wAi xAi cI cZ gAi) sz E := by
  refine mt_start (own := R_Ai) (by decide +kernel) rfl (Nat.le_of_ble_eq_true rfl) (fun p e s m args below meth c A ls C0 hAe hno hlk hP hD hS hl => ?_)
  obtain ⟨Q, hQ⟩ : ∃ Q, Q = QT below D (TYS cI cZ cJ) (wAi xAi cI cZ gAi) E args s := ⟨_, rfl⟩
  rw [← hQ]
  obtain ⟨hx, hb, -, hown, hts, hK, hE, -⟩ := id C0
  have hl : lv_has ls 3 [(0, .ref (xAi 0)), (1, .int p1)] := hl
  obtain ⟨H, hH⟩ : ∃ H, H = s.heap := ⟨_, rfl⟩
  have hP : va_P D vwCl (wAi xAi cI cZ gAi) H := by rw [hH]; exact hP
  have hS : va_S A s.heap H [] := by rw [hH]; exact hS
  rw [show W p l e rm_Ai_setLag_t s m args below meth c s.heap = W p l e rm_Ai_setLag_t s m args below meth c H by rw [hH]]
  generalize ([] : List Loc) = locs at hS ⊢
  unfold f_Ai_setLag at h
  refine lv_iload_n hx hb d_Ai_setLag_0 rfl (lv_at hl 1 rfl) ?_
  refine lv_iconst (v := 1) hx hb d_Ai_setLag_1 (by decide) ?_
  refine lv_bipush (v := 100) hx hb d_Ai_setLag_2 (by decide) ?_
  obtain ⟨hc_1, h⟩ | ⟨E9, hc_1, h⟩ := xc0_i h
  rotate_left
  · cases h
    rw [hQ]
    exact x_out C0 hAe hno hlk hP hD hS [] rfl rfl rfl (rN (As := [.int p1, .int 1, .int 100]) (rest := []) C0 hP hD hS hl.1 [] (c_Cc_requireRange_t l hltr D cI cZ cJ  H.size p1 1 100 E hc_1) k_Cc_requireRange (List.mem_of_getElem? (i := 11) rfl) rfl rfl ⟨by decide, by decide⟩ ⟨rfl, rfl⟩ rfl (Nat.le_of_ble_eq_true rfl) d_Ai_setLag_4 ⟨by decide, by decide⟩) ⟨rfl, rfl⟩
  refine cNv (As := [.int p1, .int 1, .int 100]) (rest := []) C0 hP hD hS hl.1 [] (c_Cc_requireRange_r l D cI cZ cJ  H.size p1 1 100 hc_1) k_Cc_requireRange (List.mem_of_getElem? (i := 11) rfl) rfl rfl rfl ⟨by decide, by decide⟩ ⟨rfl, rfl⟩ rfl (Nat.le_of_ble_eq_true rfl) d_Ai_setLag_4 ⟨Nat.zero_le _, Nat.zero_le _⟩ (fun H locs hP hD hS => ?_)
  have hP : va_P D vwCl (wAi xAi cI cZ gAi) H := hP
  have hD : va_D A (wAi xAi cI cZ gAi) := hD
  refine lv_aload_n hx hb d_Ai_setLag_7 rfl (lv_at hl 0 rfl) ?_
  refine va_get (ci := 0) (v := .int (gAi 0 2)) (C := R_Ai) (T := F_Ai) (N := 3) hx hb hts i_Ai hown hK hP 0 rfl rfl 2 (by decide) (hts _ m_164) (fun _ h9 => h9) rfl d_Ai_setLag_8 ?_
  obtain ⟨x_2, ex_2, h⟩ := letb_i h
  refine lv_topn ex_2 ?_
  refine lv_istore_n (lv' := [(2, .int x_2), (0, .ref (xAi 0)), (1, .int p1)]) hx hb d_Ai_setLag_11 rfl hl (by decide) rfl (fun ls hl => ?_)
  refine lv_aload_n hx hb d_Ai_setLag_12 rfl (lv_at hl 1 rfl) ?_
  refine lv_iload_n hx hb d_Ai_setLag_13 rfl (lv_at hl 2 rfl) ?_
  refine va_put (ci := 0) (v := .int p1) (ty := .int) (C := R_Ai) (T := F_Ai) (N := 3) hx hb hts i_Ai t_Ai o_Ai n_Ai hown hK hP hD hS 0 rfl rfl 2 (by decide) (hts _ m_164) (fun _ h9 => h9) rfl (by decide +kernel) rfl rfl (Nat.le_of_ble_eq_true rfl) d_Ai_setLag_14 (fun H locs hP hD hS => ?_)
  obtain ⟨gAi_3, egAi_3, h⟩ := letb_i h
  have hP : va_P D vwCl (wAi xAi cI cZ gAi_3) H := by rw [egAi_3]; exact hP
  have hD : va_D A (wAi xAi cI cZ gAi_3) := by rw [egAi_3]; exact hD
  refine lv_iload_n hx hb d_Ai_setLag_17 rfl (lv_at hl 0 rfl) ?_
  cases h
abbrev rm_Ai_nextHour_r : Room := { frames := 1, cells := 0, slots := 0, locals := 22 }
set_option maxRecDepth 100000 in
set_option maxHeartbeats 4000000 in
theorem c_Ai_nextHour_r (l : Launch) (D : va_G) (cI cZ cJ : ClassId) (xAi : Nat → Nat) (sz : Nat) (gAi : St) (p1 : Int32) (r : Int32) (gAi1 : St) (h : f_Ai_nextHour gAi p1 = some (.inl (r, gAi1))) : MI l y_Ai_nextHour b_Ai_nextHour 4 (some .int) rm_Ai_nextHour_r D (TYS cI cZ cJ) [.ref (xAi 0), .int p1] (wAi xAi cI cZ gAi) sz r (wAi xAi cI cZ gAi1) := by
  refine mi_start (own := R_Ai) (by decide +kernel) rfl (Nat.le_of_ble_eq_true rfl) (fun p e s m args below meth c A ls C0 hr hlk hP hD hS hl => ?_)
  obtain ⟨Q, hQ⟩ : ∃ Q, Q = QI below D (TYS cI cZ cJ) A (wAi xAi cI cZ gAi1) r args s := ⟨_, rfl⟩
  rw [← hQ]
  obtain ⟨hx, hb, -, hown, hts, hK, hE, -⟩ := id C0
  have hl : lv_has ls 4 [(0, .ref (xAi 0)), (1, .int p1)] := hl
  obtain ⟨H, hH⟩ : ∃ H, H = s.heap := ⟨_, rfl⟩
  have hP : va_P D vwCl (wAi xAi cI cZ gAi) H := by rw [hH]; exact hP
  have hS : va_S A s.heap H [] := by rw [hH]; exact hS
  rw [show W p l e rm_Ai_nextHour_r s m args below meth c s.heap = W p l e rm_Ai_nextHour_r s m args below meth c H by rw [hH]]
  generalize ([] : List Loc) = locs at hS ⊢
  unfold f_Ai_nextHour at h
  refine lv_aload_n hx hb d_Ai_nextHour_0 rfl (lv_at hl 0 rfl) ?_
  refine va_get (ci := 0) (v := .int (gAi 0 1)) (C := R_Ai) (T := F_Ai) (N := 3) hx hb hts i_Ai hown hK hP 0 rfl rfl 1 (by decide) (hts _ m_162) (fun _ h9 => h9) rfl d_Ai_nextHour_1 ?_
  refine lv_sipush (v := 200) hx hb d_Ai_nextHour_4 (by decide) ?_
  obtain ⟨hc_1, h⟩ | ⟨E9, hc_1, h⟩ := xc0_i h
  rotate_left
  · cases h
  refine cNv (As := [.int (gAi 0 1), .int 200]) (rest := []) C0 hP hD hS hl.1 [] (c_Cc_requireRoom_r l D cI cZ cJ  H.size (gAi 0 1) 200 hc_1) k_Cc_requireRoom (List.mem_of_getElem? (i := 12) rfl) rfl rfl rfl ⟨by decide, by decide⟩ ⟨rfl, rfl⟩ rfl (Nat.le_of_ble_eq_true rfl) d_Ai_nextHour_7 ⟨Nat.zero_le _, Nat.zero_le _⟩ (fun H locs hP hD hS => ?_)
  have hP : va_P D vwCl (wAi xAi cI cZ gAi) H := hP
  have hD : va_D A (wAi xAi cI cZ gAi) := hD
  refine lv_iload_n hx hb d_Ai_nextHour_10 rfl (lv_at hl 1 rfl) ?_
  refine lv_bipush (v := (-60)) hx hb d_Ai_nextHour_11 (by decide) ?_
  refine lv_bipush (v := 60) hx hb d_Ai_nextHour_13 (by decide) ?_
  obtain ⟨hc_2, h⟩ | ⟨E9, hc_2, h⟩ := xc0_i h
  rotate_left
  · cases h
  refine cNv (As := [.int p1, .int (-60), .int 60]) (rest := []) C0 hP hD hS hl.1 [] (c_Cc_requireRange_r l D cI cZ cJ  H.size p1 (-60) 60 hc_2) k_Cc_requireRange (List.mem_of_getElem? (i := 11) rfl) rfl rfl rfl ⟨by decide, by decide⟩ ⟨rfl, rfl⟩ rfl (Nat.le_of_ble_eq_true rfl) d_Ai_nextHour_15 ⟨Nat.zero_le _, Nat.zero_le _⟩ (fun H locs hP hD hS => ?_)
  have hP : va_P D vwCl (wAi xAi cI cZ gAi) H := hP
  have hD : va_D A (wAi xAi cI cZ gAi) := hD
  refine lv_aload_n hx hb d_Ai_nextHour_18 rfl (lv_at hl 0 rfl) ?_
  refine va_get (ci := 0) (v := .int (gAi 0 1)) (C := R_Ai) (T := F_Ai) (N := 3) hx hb hts i_Ai hown hK hP 0 rfl rfl 1 (by decide) (hts _ m_162) (fun _ h9 => h9) rfl d_Ai_nextHour_19 ?_
  have K42 : ∀ (s0_42 : Int32) (H : Heap) (locs : List Loc) (ls : Array Slot), va_P D vwCl (wAi xAi cI cZ gAi) H → va_D A (wAi xAi cI cZ gAi) → va_S A s.heap H locs → lv_has ls 4 [(0, .ref (xAi 0)), (1, .int p1)] → f_Ai_nextHour_J42 gAi p1 s0_42 = some (.inl (r, gAi1)) → W p l e rm_Ai_nextHour_r s m args below meth c H locs 0 0 Q (F0 m 42 ls [.int s0_42]) := by
    intro s0_42 H locs ls hP hD hS hl h
    unfold f_Ai_nextHour_J42 at h
    refine lv_istore_n (lv' := [(2, .int s0_42), (0, .ref (xAi 0)), (1, .int p1)]) hx hb d_Ai_nextHour_42 rfl hl (by decide) rfl (fun ls hl => ?_)
    refine lv_iload_n hx hb d_Ai_nextHour_43 rfl (lv_at hl 2 rfl) ?_
    refine lv_sipush (v := 1000) hx hb d_Ai_nextHour_44 (by decide) ?_
    refine lv_imul hx hb d_Ai_nextHour_47 ?_
    refine lv_iload_n hx hb d_Ai_nextHour_48 rfl (lv_at hl 0 rfl) ?_
    refine lv_isub hx hb d_Ai_nextHour_49 ?_
    refine lv_aload_n hx hb d_Ai_nextHour_50 rfl (lv_at hl 1 rfl) ?_
    refine va_get (ci := 0) (v := .int (gAi 0 2)) (C := R_Ai) (T := F_Ai) (N := 3) hx hb hts i_Ai hown hK hP 0 rfl rfl 2 (by decide) (hts _ m_164) (fun _ h9 => h9) rfl d_Ai_nextHour_51 ?_
    refine lv_iconst (v := 1) hx hb d_Ai_nextHour_54 (by decide) ?_
    obtain ⟨r_3, hc_4, h⟩ := xv1_i h
    refine cSi (As := [.int (gAi 0 2), .int 1]) (rest := [.int ((p1 * 1000) - s0_42)]) C0 hP hD hS hl.1 [] (c_Ma_max_r l D cI cZ cJ  H.size (gAi 0 2) 1 r_3 hc_4) k_Ma_max m_607 rfl rfl rfl ⟨by decide, by decide⟩ ⟨rfl, rfl⟩ rfl (Nat.le_of_ble_eq_true rfl) d_Ai_nextHour_55 ⟨Nat.zero_le _, Nat.zero_le _⟩ (fun H locs hP hD hS => ?_)
    have hP : va_P D vwCl (wAi xAi cI cZ gAi) H := hP
    have hD : va_D A (wAi xAi cI cZ gAi) := hD
    obtain ⟨r_5, hc_6, h⟩ := xv1_i h
    refine cSi (As := [.int ((p1 * 1000) - s0_42), .int r_3]) (rest := []) C0 hP hD hS hl.1 [] (c_Ma_floorDiv_r l D cI cZ cJ  H.size ((p1 * 1000) - s0_42) r_3 r_5 hc_6) k_Ma_floorDiv m_610 rfl rfl rfl ⟨by decide, by decide⟩ ⟨rfl, rfl⟩ rfl (Nat.le_of_ble_eq_true rfl) d_Ai_nextHour_58 ⟨Nat.zero_le _, Nat.zero_le _⟩ (fun H locs hP hD hS => ?_)
    have hP : va_P D vwCl (wAi xAi cI cZ gAi) H := hP
    have hD : va_D A (wAi xAi cI cZ gAi) := hD
    refine lv_istore_n (lv' := [(3, .int r_5), (2, .int s0_42), (0, .ref (xAi 0)), (1, .int p1)]) hx hb d_Ai_nextHour_61 rfl hl (by decide) rfl (fun ls hl => ?_)
    refine lv_aload_n hx hb d_Ai_nextHour_62 rfl (lv_at hl 2 rfl) ?_
    refine va_get (ci := 0) (v := .ref (xAi 1)) (C := R_Ai) (T := F_Ai) (N := 3) hx hb hts i_Ai hown hK hP 0 rfl rfl 0 (by decide) (hts _ m_161) (fun _ h9 => h9) rfl d_Ai_nextHour_63 ?_
    refine lv_aload_n hx hb d_Ai_nextHour_66 rfl (lv_at hl 2 rfl) ?_
    refine va_get (ci := 0) (v := .int (gAi 0 1)) (C := R_Ai) (T := F_Ai) (N := 3) hx hb hts i_Ai hown hK hP 0 rfl rfl 1 (by decide) (hts _ m_162) (fun _ h9 => h9) rfl d_Ai_nextHour_67 ?_
    refine lv_iload_n hx hb d_Ai_nextHour_70 rfl (lv_at hl 1 rfl) ?_
    refine lv_iload_n hx hb d_Ai_nextHour_71 rfl (lv_at hl 0 rfl) ?_
    refine lv_iadd hx hb d_Ai_nextHour_72 ?_
    obtain ⟨hi_7, h⟩ := gb_i h
    refine va_iast hx hb hK hP hD hS 1 0 rfl rfl (inb_in hi_7) d_Ai_nextHour_73 (fun H locs hP hD hS => ?_)
    obtain ⟨gAi_8, egAi_8, h⟩ := letb_i h
    have hP : va_P D vwCl (wAi xAi cI cZ gAi_8) H := by rw [egAi_8]; exact hP
    have hD : va_D A (wAi xAi cI cZ gAi_8) := by rw [egAi_8]; exact hD
    refine lv_aload_n hx hb d_Ai_nextHour_74 rfl (lv_at hl 2 rfl) ?_
    refine lv_dup hx hb d_Ai_nextHour_75 rfl ?_
    refine va_get (ci := 0) (v := .int (gAi_8 0 1)) (C := R_Ai) (T := F_Ai) (N := 3) hx hb hts i_Ai hown hK hP 0 rfl rfl 1 (by decide) (hts _ m_162) (fun _ h9 => h9) rfl d_Ai_nextHour_76 ?_
    refine lv_iconst (v := 1) hx hb d_Ai_nextHour_79 (by decide) ?_
    refine lv_iadd hx hb d_Ai_nextHour_80 ?_
    refine va_put (ci := 0) (v := .int ((gAi_8 0 1) + 1)) (ty := .int) (C := R_Ai) (T := F_Ai) (N := 3) hx hb hts i_Ai t_Ai o_Ai n_Ai hown hK hP hD hS 0 rfl rfl 1 (by decide) (hts _ m_162) (fun _ h9 => h9) rfl (by decide +kernel) rfl rfl (Nat.le_of_ble_eq_true rfl) d_Ai_nextHour_81 (fun H locs hP hD hS => ?_)
    obtain ⟨gAi_9, egAi_9, h⟩ := letb_i h
    have hP : va_P D vwCl (wAi xAi cI cZ gAi_9) H := by rw [egAi_9]; exact hP
    have hD : va_D A (wAi xAi cI cZ gAi_9) := by rw [egAi_9]; exact hD
    refine lv_iload_n hx hb d_Ai_nextHour_84 rfl (lv_at hl 1 rfl) ?_
    refine lv_iload_n hx hb d_Ai_nextHour_85 rfl (lv_at hl 0 rfl) ?_
    refine lv_iadd hx hb d_Ai_nextHour_86 ?_
    cases h
    rw [hQ]
    exact mi_ret C0 hr rfl hlk hP hD hS d_Ai_nextHour_87
  refine lv_if_ne (tgt := 31) hx hb d_Ai_nextHour_22 (by decide) (fun c_10 => ?_) (fun c_10 => ?_)
  · rw [if_neg c_10] at h
    refine lv_aload_n hx hb d_Ai_nextHour_31 rfl (lv_at hl 0 rfl) ?_
    refine va_get (ci := 0) (v := .ref (xAi 1)) (C := R_Ai) (T := F_Ai) (N := 3) hx hb hts i_Ai hown hK hP 0 rfl rfl 0 (by decide) (hts _ m_161) (fun _ h9 => h9) rfl d_Ai_nextHour_32 ?_
    refine lv_aload_n hx hb d_Ai_nextHour_35 rfl (lv_at hl 0 rfl) ?_
    refine va_get (ci := 0) (v := .int (gAi 0 1)) (C := R_Ai) (T := F_Ai) (N := 3) hx hb hts i_Ai hown hK hP 0 rfl rfl 1 (by decide) (hts _ m_162) (fun _ h9 => h9) rfl d_Ai_nextHour_36 ?_
    refine lv_iconst (v := 1) hx hb d_Ai_nextHour_39 (by decide) ?_
    refine lv_isub hx hb d_Ai_nextHour_40 ?_
    obtain ⟨hi_11, h⟩ := gb_i h
    refine va_iald hx hb hK hP 1 0 rfl rfl (inb_in hi_11) d_Ai_nextHour_41 ?_
    obtain ⟨x_12, ex_12, h⟩ := letb_i h
    refine lv_topn ex_12 ?_
    exact K42 x_12 H locs ls hP hD hS (lv_sub hl [0, 1] rfl) h
  · rw [if_pos c_10] at h
    refine lv_sipush (v := 20000) hx hb d_Ai_nextHour_25 (by decide) ?_
    refine lv_goto (tgt := 42) hx hb d_Ai_nextHour_28 (by decide) ?_
    exact K42 20000 H locs ls hP hD hS (lv_sub hl [0, 1] rfl) h
abbrev rm_Ai_nextHour_t : Room := { frames := 7, cells := 1, slots := 6, locals := 104 }
set_option maxRecDepth 100000 in
set_option maxHeartbeats 4000000 in
theorem c_Ai_nextHour_t (l : Launch) (hltr : l.stackTraces = false) (D : va_G) (cI cZ cJ : ClassId) (xAi : Nat → Nat) (sz : Nat) (gAi : St) (p1 : Int32) (E : String) (h : f_Ai_nextHour gAi p1 = some (.inr E)) : MT l y_Ai_nextHour b_Ai_nextHour 4 (some .int) rm_Ai_nextHour_t D (TYS cI cZ cJ) [.ref (xAi 0), .int p1] (wAi xAi cI cZ gAi) sz E := by
  refine mt_start (own := R_Ai) (by decide +kernel) rfl (Nat.le_of_ble_eq_true rfl) (fun p e s m args below meth c A ls C0 hAe hno hlk hP hD hS hl => ?_)
  obtain ⟨Q, hQ⟩ : ∃ Q, Q = QT below D (TYS cI cZ cJ) (wAi xAi cI cZ gAi) E args s := ⟨_, rfl⟩
  rw [← hQ]
  obtain ⟨hx, hb, -, hown, hts, hK, hE, -⟩ := id C0
  have hl : lv_has ls 4 [(0, .ref (xAi 0)), (1, .int p1)] := hl
  obtain ⟨H, hH⟩ : ∃ H, H = s.heap := ⟨_, rfl⟩
  have hP : va_P D vwCl (wAi xAi cI cZ gAi) H := by rw [hH]; exact hP
  have hS : va_S A s.heap H [] := by rw [hH]; exact hS
  rw [show W p l e rm_Ai_nextHour_t s m args below meth c s.heap = W p l e rm_Ai_nextHour_t s m args below meth c H by rw [hH]]
  generalize ([] : List Loc) = locs at hS ⊢
  unfold f_Ai_nextHour at h
  refine lv_aload_n hx hb d_Ai_nextHour_0 rfl (lv_at hl 0 rfl) ?_
  refine va_get (ci := 0) (v := .int (gAi 0 1)) (C := R_Ai) (T := F_Ai) (N := 3) hx hb hts i_Ai hown hK hP 0 rfl rfl 1 (by decide) (hts _ m_162) (fun _ h9 => h9) rfl d_Ai_nextHour_1 ?_
  refine lv_sipush (v := 200) hx hb d_Ai_nextHour_4 (by decide) ?_
  obtain ⟨hc_1, h⟩ | ⟨E9, hc_1, h⟩ := xc0_i h
  rotate_left
  · cases h
    rw [hQ]
    exact x_out C0 hAe hno hlk hP hD hS [] rfl rfl rfl (rN (As := [.int (gAi 0 1), .int 200]) (rest := []) C0 hP hD hS hl.1 [] (c_Cc_requireRoom_t l hltr D cI cZ cJ  H.size (gAi 0 1) 200 E hc_1) k_Cc_requireRoom (List.mem_of_getElem? (i := 12) rfl) rfl rfl ⟨by decide, by decide⟩ ⟨rfl, rfl⟩ rfl (Nat.le_of_ble_eq_true rfl) d_Ai_nextHour_7 ⟨by decide, by decide⟩) ⟨rfl, rfl⟩
  refine cNv (As := [.int (gAi 0 1), .int 200]) (rest := []) C0 hP hD hS hl.1 [] (c_Cc_requireRoom_r l D cI cZ cJ  H.size (gAi 0 1) 200 hc_1) k_Cc_requireRoom (List.mem_of_getElem? (i := 12) rfl) rfl rfl rfl ⟨by decide, by decide⟩ ⟨rfl, rfl⟩ rfl (Nat.le_of_ble_eq_true rfl) d_Ai_nextHour_7 ⟨Nat.zero_le _, Nat.zero_le _⟩ (fun H locs hP hD hS => ?_)
  have hP : va_P D vwCl (wAi xAi cI cZ gAi) H := hP
  have hD : va_D A (wAi xAi cI cZ gAi) := hD
  refine lv_iload_n hx hb d_Ai_nextHour_10 rfl (lv_at hl 1 rfl) ?_
  refine lv_bipush (v := (-60)) hx hb d_Ai_nextHour_11 (by decide) ?_
  refine lv_bipush (v := 60) hx hb d_Ai_nextHour_13 (by decide) ?_
  obtain ⟨hc_2, h⟩ | ⟨E9, hc_2, h⟩ := xc0_i h
  rotate_left
  · cases h
    rw [hQ]
    exact x_out C0 hAe hno hlk hP hD hS [] rfl rfl rfl (rN (As := [.int p1, .int (-60), .int 60]) (rest := []) C0 hP hD hS hl.1 [] (c_Cc_requireRange_t l hltr D cI cZ cJ  H.size p1 (-60) 60 E hc_2) k_Cc_requireRange (List.mem_of_getElem? (i := 11) rfl) rfl rfl ⟨by decide, by decide⟩ ⟨rfl, rfl⟩ rfl (Nat.le_of_ble_eq_true rfl) d_Ai_nextHour_15 ⟨by decide, by decide⟩) ⟨rfl, rfl⟩
  refine cNv (As := [.int p1, .int (-60), .int 60]) (rest := []) C0 hP hD hS hl.1 [] (c_Cc_requireRange_r l D cI cZ cJ  H.size p1 (-60) 60 hc_2) k_Cc_requireRange (List.mem_of_getElem? (i := 11) rfl) rfl rfl rfl ⟨by decide, by decide⟩ ⟨rfl, rfl⟩ rfl (Nat.le_of_ble_eq_true rfl) d_Ai_nextHour_15 ⟨Nat.zero_le _, Nat.zero_le _⟩ (fun H locs hP hD hS => ?_)
  have hP : va_P D vwCl (wAi xAi cI cZ gAi) H := hP
  have hD : va_D A (wAi xAi cI cZ gAi) := hD
  refine lv_aload_n hx hb d_Ai_nextHour_18 rfl (lv_at hl 0 rfl) ?_
  refine va_get (ci := 0) (v := .int (gAi 0 1)) (C := R_Ai) (T := F_Ai) (N := 3) hx hb hts i_Ai hown hK hP 0 rfl rfl 1 (by decide) (hts _ m_162) (fun _ h9 => h9) rfl d_Ai_nextHour_19 ?_
  have K42 : ∀ (s0_42 : Int32) (H : Heap) (locs : List Loc) (ls : Array Slot), va_P D vwCl (wAi xAi cI cZ gAi) H → va_D A (wAi xAi cI cZ gAi) → va_S A s.heap H locs → lv_has ls 4 [(0, .ref (xAi 0)), (1, .int p1)] → f_Ai_nextHour_J42 gAi p1 s0_42 = some (.inr E) → W p l e rm_Ai_nextHour_t s m args below meth c H locs 0 0 Q (F0 m 42 ls [.int s0_42]) := by
    intro s0_42 H locs ls hP hD hS hl h
    unfold f_Ai_nextHour_J42 at h
    refine lv_istore_n (lv' := [(2, .int s0_42), (0, .ref (xAi 0)), (1, .int p1)]) hx hb d_Ai_nextHour_42 rfl hl (by decide) rfl (fun ls hl => ?_)
    refine lv_iload_n hx hb d_Ai_nextHour_43 rfl (lv_at hl 2 rfl) ?_
    refine lv_sipush (v := 1000) hx hb d_Ai_nextHour_44 (by decide) ?_
    refine lv_imul hx hb d_Ai_nextHour_47 ?_
    refine lv_iload_n hx hb d_Ai_nextHour_48 rfl (lv_at hl 0 rfl) ?_
    refine lv_isub hx hb d_Ai_nextHour_49 ?_
    refine lv_aload_n hx hb d_Ai_nextHour_50 rfl (lv_at hl 1 rfl) ?_
    refine va_get (ci := 0) (v := .int (gAi 0 2)) (C := R_Ai) (T := F_Ai) (N := 3) hx hb hts i_Ai hown hK hP 0 rfl rfl 2 (by decide) (hts _ m_164) (fun _ h9 => h9) rfl d_Ai_nextHour_51 ?_
    refine lv_iconst (v := 1) hx hb d_Ai_nextHour_54 (by decide) ?_
    obtain ⟨r_3, hc_4, h⟩ := xv1_i h
    refine cSi (As := [.int (gAi 0 2), .int 1]) (rest := [.int ((p1 * 1000) - s0_42)]) C0 hP hD hS hl.1 [] (c_Ma_max_r l D cI cZ cJ  H.size (gAi 0 2) 1 r_3 hc_4) k_Ma_max m_607 rfl rfl rfl ⟨by decide, by decide⟩ ⟨rfl, rfl⟩ rfl (Nat.le_of_ble_eq_true rfl) d_Ai_nextHour_55 ⟨Nat.zero_le _, Nat.zero_le _⟩ (fun H locs hP hD hS => ?_)
    have hP : va_P D vwCl (wAi xAi cI cZ gAi) H := hP
    have hD : va_D A (wAi xAi cI cZ gAi) := hD
    obtain ⟨r_5, hc_6, h⟩ := xv1_i h
    refine cSi (As := [.int ((p1 * 1000) - s0_42), .int r_3]) (rest := []) C0 hP hD hS hl.1 [] (c_Ma_floorDiv_r l D cI cZ cJ  H.size ((p1 * 1000) - s0_42) r_3 r_5 hc_6) k_Ma_floorDiv m_610 rfl rfl rfl ⟨by decide, by decide⟩ ⟨rfl, rfl⟩ rfl (Nat.le_of_ble_eq_true rfl) d_Ai_nextHour_58 ⟨Nat.zero_le _, Nat.zero_le _⟩ (fun H locs hP hD hS => ?_)
    have hP : va_P D vwCl (wAi xAi cI cZ gAi) H := hP
    have hD : va_D A (wAi xAi cI cZ gAi) := hD
    refine lv_istore_n (lv' := [(3, .int r_5), (2, .int s0_42), (0, .ref (xAi 0)), (1, .int p1)]) hx hb d_Ai_nextHour_61 rfl hl (by decide) rfl (fun ls hl => ?_)
    refine lv_aload_n hx hb d_Ai_nextHour_62 rfl (lv_at hl 2 rfl) ?_
    refine va_get (ci := 0) (v := .ref (xAi 1)) (C := R_Ai) (T := F_Ai) (N := 3) hx hb hts i_Ai hown hK hP 0 rfl rfl 0 (by decide) (hts _ m_161) (fun _ h9 => h9) rfl d_Ai_nextHour_63 ?_
    refine lv_aload_n hx hb d_Ai_nextHour_66 rfl (lv_at hl 2 rfl) ?_
    refine va_get (ci := 0) (v := .int (gAi 0 1)) (C := R_Ai) (T := F_Ai) (N := 3) hx hb hts i_Ai hown hK hP 0 rfl rfl 1 (by decide) (hts _ m_162) (fun _ h9 => h9) rfl d_Ai_nextHour_67 ?_
    refine lv_iload_n hx hb d_Ai_nextHour_70 rfl (lv_at hl 1 rfl) ?_
    refine lv_iload_n hx hb d_Ai_nextHour_71 rfl (lv_at hl 0 rfl) ?_
    refine lv_iadd hx hb d_Ai_nextHour_72 ?_
    obtain ⟨hi_7, h⟩ := gb_i h
    refine va_iast hx hb hK hP hD hS 1 0 rfl rfl (inb_in hi_7) d_Ai_nextHour_73 (fun H locs hP hD hS => ?_)
    obtain ⟨gAi_8, egAi_8, h⟩ := letb_i h
    have hP : va_P D vwCl (wAi xAi cI cZ gAi_8) H := by rw [egAi_8]; exact hP
    have hD : va_D A (wAi xAi cI cZ gAi_8) := by rw [egAi_8]; exact hD
    refine lv_aload_n hx hb d_Ai_nextHour_74 rfl (lv_at hl 2 rfl) ?_
    refine lv_dup hx hb d_Ai_nextHour_75 rfl ?_
    refine va_get (ci := 0) (v := .int (gAi_8 0 1)) (C := R_Ai) (T := F_Ai) (N := 3) hx hb hts i_Ai hown hK hP 0 rfl rfl 1 (by decide) (hts _ m_162) (fun _ h9 => h9) rfl d_Ai_nextHour_76 ?_
    refine lv_iconst (v := 1) hx hb d_Ai_nextHour_79 (by decide) ?_
    refine lv_iadd hx hb d_Ai_nextHour_80 ?_
    refine va_put (ci := 0) (v := .int ((gAi_8 0 1) + 1)) (ty := .int) (C := R_Ai) (T := F_Ai) (N := 3) hx hb hts i_Ai t_Ai o_Ai n_Ai hown hK hP hD hS 0 rfl rfl 1 (by decide) (hts _ m_162) (fun _ h9 => h9) rfl (by decide +kernel) rfl rfl (Nat.le_of_ble_eq_true rfl) d_Ai_nextHour_81 (fun H locs hP hD hS => ?_)
    obtain ⟨gAi_9, egAi_9, h⟩ := letb_i h
    have hP : va_P D vwCl (wAi xAi cI cZ gAi_9) H := by rw [egAi_9]; exact hP
    have hD : va_D A (wAi xAi cI cZ gAi_9) := by rw [egAi_9]; exact hD
    refine lv_iload_n hx hb d_Ai_nextHour_84 rfl (lv_at hl 1 rfl) ?_
    refine lv_iload_n hx hb d_Ai_nextHour_85 rfl (lv_at hl 0 rfl) ?_
    refine lv_iadd hx hb d_Ai_nextHour_86 ?_
    cases h
  refine lv_if_ne (tgt := 31) hx hb d_Ai_nextHour_22 (by decide) (fun c_10 => ?_) (fun c_10 => ?_)
  · rw [if_neg c_10] at h
    refine lv_aload_n hx hb d_Ai_nextHour_31 rfl (lv_at hl 0 rfl) ?_
    refine va_get (ci := 0) (v := .ref (xAi 1)) (C := R_Ai) (T := F_Ai) (N := 3) hx hb hts i_Ai hown hK hP 0 rfl rfl 0 (by decide) (hts _ m_161) (fun _ h9 => h9) rfl d_Ai_nextHour_32 ?_
    refine lv_aload_n hx hb d_Ai_nextHour_35 rfl (lv_at hl 0 rfl) ?_
    refine va_get (ci := 0) (v := .int (gAi 0 1)) (C := R_Ai) (T := F_Ai) (N := 3) hx hb hts i_Ai hown hK hP 0 rfl rfl 1 (by decide) (hts _ m_162) (fun _ h9 => h9) rfl d_Ai_nextHour_36 ?_
    refine lv_iconst (v := 1) hx hb d_Ai_nextHour_39 (by decide) ?_
    refine lv_isub hx hb d_Ai_nextHour_40 ?_
    obtain ⟨hi_11, h⟩ := gb_i h
    refine va_iald hx hb hK hP 1 0 rfl rfl (inb_in hi_11) d_Ai_nextHour_41 ?_
    obtain ⟨x_12, ex_12, h⟩ := letb_i h
    refine lv_topn ex_12 ?_
    exact K42 x_12 H locs ls hP hD hS (lv_sub hl [0, 1] rfl) h
  · rw [if_pos c_10] at h
    refine lv_sipush (v := 20000) hx hb d_Ai_nextHour_25 (by decide) ?_
    refine lv_goto (tgt := 42) hx hb d_Ai_nextHour_28 (by decide) ?_
    exact K42 20000 H locs ls hP hD hS (lv_sub hl [0, 1] rfl) h
abbrev rm_Ai_afterHour_r : Room := { frames := 1, cells := 0, slots := 0, locals := 21 }
set_option maxRecDepth 100000 in
set_option maxHeartbeats 4000000 in
theorem c_Ai_afterHour_r (l : Launch) (D : va_G) (cI cZ cJ : ClassId) (xAi : Nat → Nat) (sz : Nat) (gAi : St) (p1 : Int32) (r : Int32) (h : f_Ai_afterHour gAi p1 = some (.inl r)) : MI l y_Ai_afterHour b_Ai_afterHour 2 (some .int) rm_Ai_afterHour_r D (TYS cI cZ cJ) [.ref (xAi 0), .int p1] (wAi xAi cI cZ gAi) sz r (wAi xAi cI cZ gAi) := by
  refine mi_start (own := R_Ai) (by decide +kernel) rfl (Nat.le_of_ble_eq_true rfl) (fun p e s m args below meth c A ls C0 hr hlk hP hD hS hl => ?_)
  obtain ⟨Q, hQ⟩ : ∃ Q, Q = QI below D (TYS cI cZ cJ) A (wAi xAi cI cZ gAi) r args s := ⟨_, rfl⟩
  rw [← hQ]
  obtain ⟨hx, hb, -, hown, hts, hK, hE, -⟩ := id C0
  have hl : lv_has ls 2 [(0, .ref (xAi 0)), (1, .int p1)] := hl
  obtain ⟨H, hH⟩ : ∃ H, H = s.heap := ⟨_, rfl⟩
  have hP : va_P D vwCl (wAi xAi cI cZ gAi) H := by rw [hH]; exact hP
  have hS : va_S A s.heap H [] := by rw [hH]; exact hS
  rw [show W p l e rm_Ai_afterHour_r s m args below meth c s.heap = W p l e rm_Ai_afterHour_r s m args below meth c H by rw [hH]]
  generalize ([] : List Loc) = locs at hS ⊢
  unfold f_Ai_afterHour at h
  refine lv_iload_n hx hb d_Ai_afterHour_0 rfl (lv_at hl 1 rfl) ?_
  refine lv_aload_n hx hb d_Ai_afterHour_1 rfl (lv_at hl 0 rfl) ?_
  refine va_get (ci := 0) (v := .int (gAi 0 1)) (C := R_Ai) (T := F_Ai) (N := 3) hx hb hts i_Ai hown hK hP 0 rfl rfl 1 (by decide) (hts _ m_162) (fun _ h9 => h9) rfl d_Ai_afterHour_2 ?_
  obtain ⟨hc_1, h⟩ | ⟨E9, hc_1, h⟩ := xc0_i h
  rotate_left
  · cases h
  refine cNv (As := [.int p1, .int (gAi 0 1)]) (rest := []) C0 hP hD hS hl.1 [] (c_Cc_requireIndex_r l D cI cZ cJ  H.size p1 (gAi 0 1) hc_1) k_Cc_requireIndex (List.mem_of_getElem? (i := 13) rfl) rfl rfl rfl ⟨by decide, by decide⟩ ⟨rfl, rfl⟩ rfl (Nat.le_of_ble_eq_true rfl) d_Ai_afterHour_5 ⟨Nat.zero_le _, Nat.zero_le _⟩ (fun H locs hP hD hS => ?_)
  have hP : va_P D vwCl (wAi xAi cI cZ gAi) H := hP
  have hD : va_D A (wAi xAi cI cZ gAi) := hD
  refine lv_aload_n hx hb d_Ai_afterHour_8 rfl (lv_at hl 0 rfl) ?_
  refine va_get (ci := 0) (v := .ref (xAi 1)) (C := R_Ai) (T := F_Ai) (N := 3) hx hb hts i_Ai hown hK hP 0 rfl rfl 0 (by decide) (hts _ m_161) (fun _ h9 => h9) rfl d_Ai_afterHour_9 ?_
  refine lv_iload_n hx hb d_Ai_afterHour_12 rfl (lv_at hl 1 rfl) ?_
  obtain ⟨hi_2, h⟩ := gb_i h
  refine va_iald hx hb hK hP 1 0 rfl rfl (inb_in hi_2) d_Ai_afterHour_13 ?_
  obtain ⟨x_3, ex_3, h⟩ := letb_i h
  refine lv_topn ex_3 ?_
  cases h
  rw [hQ]
  exact mi_ret C0 hr rfl hlk hP hD hS d_Ai_afterHour_14
abbrev rm_Ai_afterHour_t : Room := { frames := 7, cells := 1, slots := 6, locals := 103 }
set_option maxRecDepth 100000 in
set_option maxHeartbeats 4000000 in
theorem c_Ai_afterHour_t (l : Launch) (hltr : l.stackTraces = false) (D : va_G) (cI cZ cJ : ClassId) (xAi : Nat → Nat) (sz : Nat) (gAi : St) (p1 : Int32) (E : String) (h : f_Ai_afterHour gAi p1 = some (.inr E)) : MT l y_Ai_afterHour b_Ai_afterHour 2 (some .int) rm_Ai_afterHour_t D (TYS cI cZ cJ) [.ref (xAi 0), .int p1] (wAi xAi cI cZ gAi) sz E := by
  refine mt_start (own := R_Ai) (by decide +kernel) rfl (Nat.le_of_ble_eq_true rfl) (fun p e s m args below meth c A ls C0 hAe hno hlk hP hD hS hl => ?_)
  obtain ⟨Q, hQ⟩ : ∃ Q, Q = QT below D (TYS cI cZ cJ) (wAi xAi cI cZ gAi) E args s := ⟨_, rfl⟩
  rw [← hQ]
  obtain ⟨hx, hb, -, hown, hts, hK, hE, -⟩ := id C0
  have hl : lv_has ls 2 [(0, .ref (xAi 0)), (1, .int p1)] := hl
  obtain ⟨H, hH⟩ : ∃ H, H = s.heap := ⟨_, rfl⟩
  have hP : va_P D vwCl (wAi xAi cI cZ gAi) H := by rw [hH]; exact hP
  have hS : va_S A s.heap H [] := by rw [hH]; exact hS
  rw [show W p l e rm_Ai_afterHour_t s m args below meth c s.heap = W p l e rm_Ai_afterHour_t s m args below meth c H by rw [hH]]
  generalize ([] : List Loc) = locs at hS ⊢
  unfold f_Ai_afterHour at h
  refine lv_iload_n hx hb d_Ai_afterHour_0 rfl (lv_at hl 1 rfl) ?_
  refine lv_aload_n hx hb d_Ai_afterHour_1 rfl (lv_at hl 0 rfl) ?_
  refine va_get (ci := 0) (v := .int (gAi 0 1)) (C := R_Ai) (T := F_Ai) (N := 3) hx hb hts i_Ai hown hK hP 0 rfl rfl 1 (by decide) (hts _ m_162) (fun _ h9 => h9) rfl d_Ai_afterHour_2 ?_
  obtain ⟨hc_1, h⟩ | ⟨E9, hc_1, h⟩ := xc0_i h
  rotate_left
  · cases h
    rw [hQ]
    exact x_out C0 hAe hno hlk hP hD hS [] rfl rfl rfl (rN (As := [.int p1, .int (gAi 0 1)]) (rest := []) C0 hP hD hS hl.1 [] (c_Cc_requireIndex_t l hltr D cI cZ cJ  H.size p1 (gAi 0 1) E hc_1) k_Cc_requireIndex (List.mem_of_getElem? (i := 13) rfl) rfl rfl ⟨by decide, by decide⟩ ⟨rfl, rfl⟩ rfl (Nat.le_of_ble_eq_true rfl) d_Ai_afterHour_5 ⟨by decide, by decide⟩) ⟨rfl, rfl⟩
  refine cNv (As := [.int p1, .int (gAi 0 1)]) (rest := []) C0 hP hD hS hl.1 [] (c_Cc_requireIndex_r l D cI cZ cJ  H.size p1 (gAi 0 1) hc_1) k_Cc_requireIndex (List.mem_of_getElem? (i := 13) rfl) rfl rfl rfl ⟨by decide, by decide⟩ ⟨rfl, rfl⟩ rfl (Nat.le_of_ble_eq_true rfl) d_Ai_afterHour_5 ⟨Nat.zero_le _, Nat.zero_le _⟩ (fun H locs hP hD hS => ?_)
  have hP : va_P D vwCl (wAi xAi cI cZ gAi) H := hP
  have hD : va_D A (wAi xAi cI cZ gAi) := hD
  refine lv_aload_n hx hb d_Ai_afterHour_8 rfl (lv_at hl 0 rfl) ?_
  refine va_get (ci := 0) (v := .ref (xAi 1)) (C := R_Ai) (T := F_Ai) (N := 3) hx hb hts i_Ai hown hK hP 0 rfl rfl 0 (by decide) (hts _ m_161) (fun _ h9 => h9) rfl d_Ai_afterHour_9 ?_
  refine lv_iload_n hx hb d_Ai_afterHour_12 rfl (lv_at hl 1 rfl) ?_
  obtain ⟨hi_2, h⟩ := gb_i h
  refine va_iald hx hb hK hP 1 0 rfl rfl (inb_in hi_2) d_Ai_afterHour_13 ?_
  obtain ⟨x_3, ex_3, h⟩ := letb_i h
  refine lv_topn ex_3 ?_
  cases h
abbrev rm_Ai_longestWithin_r : Room := { frames := 1, cells := 0, slots := 0, locals := 21 }
set_option maxRecDepth 100000 in
set_option maxHeartbeats 4000000 in
theorem c_Ai_longestWithin_r (l : Launch) (D : va_G) (cI cZ cJ : ClassId) (xAi : Nat → Nat) (sz : Nat) (gAi : St) (p1 : Int32) (p2 : Int32) (r : Int32) (h : f_Ai_longestWithin gAi p1 p2 = some (.inl r)) : MI l y_Ai_longestWithin b_Ai_longestWithin 7 (some .int) rm_Ai_longestWithin_r D (TYS cI cZ cJ) [.ref (xAi 0), .int p1, .int p2] (wAi xAi cI cZ gAi) sz r (wAi xAi cI cZ gAi) := by
  refine mi_start (own := R_Ai) (by decide +kernel) rfl (Nat.le_of_ble_eq_true rfl) (fun p e s m args below meth c A ls C0 hr hlk hP hD hS hl => ?_)
  obtain ⟨Q, hQ⟩ : ∃ Q, Q = QI below D (TYS cI cZ cJ) A (wAi xAi cI cZ gAi) r args s := ⟨_, rfl⟩
  rw [← hQ]
  obtain ⟨hx, hb, -, hown, hts, hK, hE, -⟩ := id C0
  have hl : lv_has ls 7 [(0, .ref (xAi 0)), (1, .int p1), (2, .int p2)] := hl
  obtain ⟨H, hH⟩ : ∃ H, H = s.heap := ⟨_, rfl⟩
  have hP : va_P D vwCl (wAi xAi cI cZ gAi) H := by rw [hH]; exact hP
  have hS : va_S A s.heap H [] := by rw [hH]; exact hS
  rw [show W p l e rm_Ai_longestWithin_r s m args below meth c s.heap = W p l e rm_Ai_longestWithin_r s m args below meth c H by rw [hH]]
  generalize ([] : List Loc) = locs at hS ⊢
  unfold f_Ai_longestWithin at h
  refine lv_iload_n hx hb d_Ai_longestWithin_0 rfl (lv_at hl 1 rfl) ?_
  refine lv_iload_n hx hb d_Ai_longestWithin_1 rfl (lv_at hl 2 rfl) ?_
  refine lv_icmp_le (tgt := 15) hx hb d_Ai_longestWithin_2 (by decide) (fun c_1 => ?_) (fun c_1 => ?_)
  · rw [if_pos c_1] at h
    refine lv_iconst (v := 0) hx hb d_Ai_longestWithin_15 (by decide) ?_
    refine lv_istore_n (lv' := [(3, .int 0), (0, .ref (xAi 0)), (1, .int p1), (2, .int p2)]) hx hb d_Ai_longestWithin_16 rfl hl (by decide) rfl (fun ls hl => ?_)
    refine lv_iconst (v := 0) hx hb d_Ai_longestWithin_17 (by decide) ?_
    refine lv_istore (lv' := [(4, .int 0), (3, .int 0), (0, .ref (xAi 0)), (1, .int p1), (2, .int p2)]) hx hb d_Ai_longestWithin_18 hl (by decide) rfl (fun ls hl => ?_)
    refine lv_iconst (v := 0) hx hb d_Ai_longestWithin_20 (by decide) ?_
    refine lv_istore (lv' := [(5, .int 0), (4, .int 0), (3, .int 0), (0, .ref (xAi 0)), (1, .int p1), (2, .int p2)]) hx hb d_Ai_longestWithin_21 hl (by decide) rfl (fun ls hl => ?_)
    have K89 : ∀ (v3_89 : Int32) (v4_89 : Int32) (v5_89 : Int32) (H : Heap) (locs : List Loc) (ls : Array Slot), va_P D vwCl (wAi xAi cI cZ gAi) H → va_D A (wAi xAi cI cZ gAi) → va_S A s.heap H locs → lv_has ls 7 [(0, .ref (xAi 0)), (1, .int p1), (2, .int p2), (3, .int v3_89), (4, .int v4_89), (5, .int v5_89)] → f_Ai_longestWithin_X89 v3_89 v4_89 v5_89 = some (.inl r) → W p l e rm_Ai_longestWithin_r s m args below meth c H locs 0 0 Q (F0 m 89 ls []) := by
      intro v3_89 v4_89 v5_89 H locs ls hP hD hS hl h
      unfold f_Ai_longestWithin_X89 at h
      refine lv_iload_n hx hb d_Ai_longestWithin_89 rfl (lv_at hl 3 rfl) ?_
      cases h
      rw [hQ]
      exact mi_ret C0 hr rfl hlk hP hD hS d_Ai_longestWithin_90
    have K23 : ∀ (n : Nat) (v3_23 : Int32) (v4_23 : Int32) (v5_23 : Int32) (H : Heap) (locs : List Loc) (ls : Array Slot), va_P D vwCl (wAi xAi cI cZ gAi) H → va_D A (wAi xAi cI cZ gAi) → va_S A s.heap H locs → lv_has ls 7 [(0, .ref (xAi 0)), (1, .int p1), (2, .int p2), (3, .int v3_23), (4, .int v4_23), (5, .int v5_23)] → it3 (f_Ai_longestWithin_L23 gAi p1 p2) n v3_23 v4_23 v5_23 = some (.inl r) → W p l e rm_Ai_longestWithin_r s m args below meth c H locs 0 0 Q (F0 m 23 ls []) := by
      intro n
      induction n with
      | zero => intro v3_23 v4_23 v5_23 H locs ls hP hD hS hl h; exact (it3_0 h).elim
      | succ n ih =>
        intro v3_23 v4_23 v5_23 H locs ls hP hD hS hl h
        rw [it3_s, f_Ai_longestWithin_L23] at h
        generalize it3 (f_Ai_longestWithin_L23 gAi p1 p2) n = kc_23 at h ih
        refine lv_iload hx hb d_Ai_longestWithin_23 (lv_at hl 5 rfl) ?_
        refine lv_aload_n hx hb d_Ai_longestWithin_25 rfl (lv_at hl 0 rfl) ?_
        refine va_get (ci := 0) (v := .int (gAi 0 1)) (C := R_Ai) (T := F_Ai) (N := 3) hx hb hts i_Ai hown hK hP 0 rfl rfl 1 (by decide) (hts _ m_162) (fun _ h9 => h9) rfl d_Ai_longestWithin_26 ?_
        refine lv_icmp_ge (tgt := 89) hx hb d_Ai_longestWithin_29 (by decide) (fun c_2 => ?_) (fun c_2 => ?_)
        · rw [if_pos c_2] at h
          exact K89 v3_23 v4_23 v5_23 H locs ls hP hD hS (lv_sub hl [0, 1, 2, 3, 4, 5] rfl) h
        · rw [if_neg c_2] at h
          refine lv_aload_n hx hb d_Ai_longestWithin_32 rfl (lv_at hl 0 rfl) ?_
          refine va_get (ci := 0) (v := .ref (xAi 1)) (C := R_Ai) (T := F_Ai) (N := 3) hx hb hts i_Ai hown hK hP 0 rfl rfl 0 (by decide) (hts _ m_161) (fun _ h9 => h9) rfl d_Ai_longestWithin_33 ?_
          refine lv_iload hx hb d_Ai_longestWithin_36 (lv_at hl 5 rfl) ?_
          obtain ⟨hi_3, h⟩ := gb_i h
          refine va_iald hx hb hK hP 1 0 rfl rfl (inb_in hi_3) d_Ai_longestWithin_38 ?_
          obtain ⟨x_4, ex_4, h⟩ := letb_i h
          refine lv_topn ex_4 ?_
          refine lv_iload_n hx hb d_Ai_longestWithin_39 rfl (lv_at hl 1 rfl) ?_
          have K59 : ∀ (s0_59 : Int32) (v3_59 : Int32) (v4_59 : Int32) (v5_59 : Int32) (H : Heap) (locs : List Loc) (ls : Array Slot), va_P D vwCl (wAi xAi cI cZ gAi) H → va_D A (wAi xAi cI cZ gAi) → va_S A s.heap H locs → lv_has ls 7 [(0, .ref (xAi 0)), (1, .int p1), (2, .int p2), (3, .int v3_59), (4, .int v4_59), (5, .int v5_59)] → f_Ai_longestWithin_J59 kc_23 s0_59 v3_59 v4_59 v5_59 = some (.inl r) → W p l e rm_Ai_longestWithin_r s m args below meth c H locs 0 0 Q (F0 m 59 ls [.int s0_59]) := by
            intro s0_59 v3_59 v4_59 v5_59 H locs ls hP hD hS hl h
            unfold f_Ai_longestWithin_J59 at h
            refine lv_istore (lv' := [(6, .int s0_59), (0, .ref (xAi 0)), (1, .int p1), (2, .int p2), (3, .int v3_59), (4, .int v4_59), (5, .int v5_59)]) hx hb d_Ai_longestWithin_59 hl (by decide) rfl (fun ls hl => ?_)
            refine lv_iload hx hb d_Ai_longestWithin_61 (lv_at hl 0 rfl) ?_
            have K74 : ∀ (s0_74 : Int32) (v3_74 : Int32) (v4_74 : Int32) (v5_74 : Int32) (v6_74 : Int32) (H : Heap) (locs : List Loc) (ls : Array Slot), va_P D vwCl (wAi xAi cI cZ gAi) H → va_D A (wAi xAi cI cZ gAi) → va_S A s.heap H locs → lv_has ls 7 [(0, .ref (xAi 0)), (1, .int p1), (2, .int p2), (3, .int v3_74), (4, .int v4_74), (5, .int v5_74), (6, .int v6_74)] → f_Ai_longestWithin_J74 kc_23 s0_74 v3_74 v4_74 v5_74 v6_74 = some (.inl r) → W p l e rm_Ai_longestWithin_r s m args below meth c H locs 0 0 Q (F0 m 74 ls [.int s0_74]) := by
              intro s0_74 v3_74 v4_74 v5_74 v6_74 H locs ls hP hD hS hl h
              unfold f_Ai_longestWithin_J74 at h
              refine lv_istore (lv' := [(4, .int s0_74), (0, .ref (xAi 0)), (1, .int p1), (2, .int p2), (3, .int v3_74), (5, .int v5_74), (6, .int v6_74)]) hx hb d_Ai_longestWithin_74 hl (by decide) rfl (fun ls hl => ?_)
              refine lv_iload_n hx hb d_Ai_longestWithin_76 rfl (lv_at hl 4 rfl) ?_
              refine lv_iload hx hb d_Ai_longestWithin_77 (lv_at hl 0 rfl) ?_
              obtain ⟨r_5, hc_6, h⟩ := xv1_i h
              refine cSi (As := [.int v3_74, .int s0_74]) (rest := []) C0 hP hD hS hl.1 [] (c_Ma_max_r l D cI cZ cJ  H.size v3_74 s0_74 r_5 hc_6) k_Ma_max m_607 rfl rfl rfl ⟨by decide, by decide⟩ ⟨rfl, rfl⟩ rfl (Nat.le_of_ble_eq_true rfl) d_Ai_longestWithin_79 ⟨Nat.zero_le _, Nat.zero_le _⟩ (fun H locs hP hD hS => ?_)
              have hP : va_P D vwCl (wAi xAi cI cZ gAi) H := hP
              have hD : va_D A (wAi xAi cI cZ gAi) := hD
              refine lv_istore_n (lv' := [(3, .int r_5), (4, .int s0_74), (0, .ref (xAi 0)), (1, .int p1), (2, .int p2), (5, .int v5_74), (6, .int v6_74)]) hx hb d_Ai_longestWithin_82 rfl hl (by decide) rfl (fun ls hl => ?_)
              obtain ⟨x_7, ex_7, h⟩ := letb_i h
              refine lv_iinc (v := x_7) (lv' := [(5, .int x_7), (3, .int r_5), (4, .int s0_74), (0, .ref (xAi 0)), (1, .int p1), (2, .int p2), (6, .int v6_74)]) hx hb d_Ai_longestWithin_83 hl (k := 5) rfl (by rw [ex_7]; rfl) (by decide) rfl (fun ls hl => ?_)
              refine lv_goto (tgt := 23) hx hb d_Ai_longestWithin_86 (by decide) ?_
              exact ih r_5 s0_74 x_7 H locs ls hP hD hS (lv_sub hl [3, 4, 5, 1, 2, 0] rfl) h
            refine lv_if_eq (tgt := 73) hx hb d_Ai_longestWithin_63 (by decide) (fun c_8 => ?_) (fun c_8 => ?_)
            · rw [if_pos c_8] at h
              refine lv_iconst (v := 0) hx hb d_Ai_longestWithin_73 (by decide) ?_
              exact K74 0 v3_59 v4_59 v5_59 s0_59 H locs ls hP hD hS (lv_sub hl [1, 2, 3, 4, 5, 6, 0] rfl) h
            · rw [if_neg c_8] at h
              refine lv_iload hx hb d_Ai_longestWithin_66 (lv_at hl 5 rfl) ?_
              refine lv_iconst (v := 1) hx hb d_Ai_longestWithin_68 (by decide) ?_
              refine lv_iadd hx hb d_Ai_longestWithin_69 ?_
              refine lv_goto (tgt := 74) hx hb d_Ai_longestWithin_70 (by decide) ?_
              exact K74 (v4_59 + 1) v3_59 v4_59 v5_59 s0_59 H locs ls hP hD hS (lv_sub hl [1, 2, 3, 4, 5, 6, 0] rfl) h
          have K58 : ∀ (v3_58 : Int32) (v4_58 : Int32) (v5_58 : Int32) (H : Heap) (locs : List Loc) (ls : Array Slot), va_P D vwCl (wAi xAi cI cZ gAi) H → va_D A (wAi xAi cI cZ gAi) → va_S A s.heap H locs → lv_has ls 7 [(0, .ref (xAi 0)), (1, .int p1), (2, .int p2), (3, .int v3_58), (4, .int v4_58), (5, .int v5_58)] → f_Ai_longestWithin_J58 kc_23 v3_58 v4_58 v5_58 = some (.inl r) → W p l e rm_Ai_longestWithin_r s m args below meth c H locs 0 0 Q (F0 m 58 ls []) := by
            intro v3_58 v4_58 v5_58 H locs ls hP hD hS hl h
            unfold f_Ai_longestWithin_J58 at h
            refine lv_iconst (v := 0) hx hb d_Ai_longestWithin_58 (by decide) ?_
            exact K59 0 v3_58 v4_58 v5_58 H locs ls hP hD hS (lv_sub hl [0, 1, 2, 3, 4, 5] rfl) h
          refine lv_icmp_lt (tgt := 58) hx hb d_Ai_longestWithin_40 (by decide) (fun c_9 => ?_) (fun c_9 => ?_)
          · rw [if_pos c_9] at h
            exact K58 v3_23 v4_23 v5_23 H locs ls hP hD hS (lv_sub hl [0, 1, 2, 3, 4, 5] rfl) h
          · rw [if_neg c_9] at h
            refine lv_aload_n hx hb d_Ai_longestWithin_43 rfl (lv_at hl 0 rfl) ?_
            refine va_get (ci := 0) (v := .ref (xAi 1)) (C := R_Ai) (T := F_Ai) (N := 3) hx hb hts i_Ai hown hK hP 0 rfl rfl 0 (by decide) (hts _ m_161) (fun _ h9 => h9) rfl d_Ai_longestWithin_44 ?_
            refine lv_iload hx hb d_Ai_longestWithin_47 (lv_at hl 5 rfl) ?_
            obtain ⟨hi_10, h⟩ := gb_i h
            refine va_iald hx hb hK hP 1 0 rfl rfl (inb_in hi_10) d_Ai_longestWithin_49 ?_
            obtain ⟨x_11, ex_11, h⟩ := letb_i h
            refine lv_topn ex_11 ?_
            refine lv_iload_n hx hb d_Ai_longestWithin_50 rfl (lv_at hl 2 rfl) ?_
            refine lv_icmp_gt (tgt := 58) hx hb d_Ai_longestWithin_51 (by decide) (fun c_12 => ?_) (fun c_12 => ?_)
            · rw [if_pos c_12] at h
              exact K58 v3_23 v4_23 v5_23 H locs ls hP hD hS (lv_sub hl [0, 1, 2, 3, 4, 5] rfl) h
            · rw [if_neg c_12] at h
              refine lv_iconst (v := 1) hx hb d_Ai_longestWithin_54 (by decide) ?_
              refine lv_goto (tgt := 59) hx hb d_Ai_longestWithin_55 (by decide) ?_
              exact K59 1 v3_23 v4_23 v5_23 H locs ls hP hD hS (lv_sub hl [0, 1, 2, 3, 4, 5] rfl) h
    exact K23 FU 0 0 0 H locs ls hP hD hS (lv_sub hl [3, 4, 5, 2, 1, 0] rfl) h
  · rw [if_neg c_1] at h
    cases h
abbrev rm_Ai_longestWithin_t : Room := { frames := 6, cells := 1, slots := 6, locals := 82 }
set_option maxRecDepth 100000 in
set_option maxHeartbeats 4000000 in
theorem c_Ai_longestWithin_t (l : Launch) (hltr : l.stackTraces = false) (D : va_G) (cI cZ cJ : ClassId) (xAi : Nat → Nat) (sz : Nat) (gAi : St) (p1 : Int32) (p2 : Int32) (E : String) (h : f_Ai_longestWithin gAi p1 p2 = some (.inr E)) : MT l y_Ai_longestWithin b_Ai_longestWithin 7 (some .int) rm_Ai_longestWithin_t D (TYS cI cZ cJ) [.ref (xAi 0), .int p1, .int p2] (wAi xAi cI cZ gAi) sz E := by
  refine mt_start (own := R_Ai) (by decide +kernel) rfl (Nat.le_of_ble_eq_true rfl) (fun p e s m args below meth c A ls C0 hAe hno hlk hP hD hS hl => ?_)
  obtain ⟨Q, hQ⟩ : ∃ Q, Q = QT below D (TYS cI cZ cJ) (wAi xAi cI cZ gAi) E args s := ⟨_, rfl⟩
  rw [← hQ]
  obtain ⟨hx, hb, -, hown, hts, hK, hE, -⟩ := id C0
  have hl : lv_has ls 7 [(0, .ref (xAi 0)), (1, .int p1), (2, .int p2)] := hl
  obtain ⟨H, hH⟩ : ∃ H, H = s.heap := ⟨_, rfl⟩
  have hP : va_P D vwCl (wAi xAi cI cZ gAi) H := by rw [hH]; exact hP
  have hS : va_S A s.heap H [] := by rw [hH]; exact hS
  rw [show W p l e rm_Ai_longestWithin_t s m args below meth c s.heap = W p l e rm_Ai_longestWithin_t s m args below meth c H by rw [hH]]
  generalize ([] : List Loc) = locs at hS ⊢
  unfold f_Ai_longestWithin at h
  refine lv_iload_n hx hb d_Ai_longestWithin_0 rfl (lv_at hl 1 rfl) ?_
  refine lv_iload_n hx hb d_Ai_longestWithin_1 rfl (lv_at hl 2 rfl) ?_
  refine lv_icmp_le (tgt := 15) hx hb d_Ai_longestWithin_2 (by decide) (fun c_1 => ?_) (fun c_1 => ?_)
  · rw [if_pos c_1] at h
    refine lv_iconst (v := 0) hx hb d_Ai_longestWithin_15 (by decide) ?_
    refine lv_istore_n (lv' := [(3, .int 0), (0, .ref (xAi 0)), (1, .int p1), (2, .int p2)]) hx hb d_Ai_longestWithin_16 rfl hl (by decide) rfl (fun ls hl => ?_)
    refine lv_iconst (v := 0) hx hb d_Ai_longestWithin_17 (by decide) ?_
    refine lv_istore (lv' := [(4, .int 0), (3, .int 0), (0, .ref (xAi 0)), (1, .int p1), (2, .int p2)]) hx hb d_Ai_longestWithin_18 hl (by decide) rfl (fun ls hl => ?_)
    refine lv_iconst (v := 0) hx hb d_Ai_longestWithin_20 (by decide) ?_
    refine lv_istore (lv' := [(5, .int 0), (4, .int 0), (3, .int 0), (0, .ref (xAi 0)), (1, .int p1), (2, .int p2)]) hx hb d_Ai_longestWithin_21 hl (by decide) rfl (fun ls hl => ?_)
    have K89 : ∀ (v3_89 : Int32) (v4_89 : Int32) (v5_89 : Int32) (H : Heap) (locs : List Loc) (ls : Array Slot), va_P D vwCl (wAi xAi cI cZ gAi) H → va_D A (wAi xAi cI cZ gAi) → va_S A s.heap H locs → lv_has ls 7 [(0, .ref (xAi 0)), (1, .int p1), (2, .int p2), (3, .int v3_89), (4, .int v4_89), (5, .int v5_89)] → f_Ai_longestWithin_X89 v3_89 v4_89 v5_89 = some (.inr E) → W p l e rm_Ai_longestWithin_t s m args below meth c H locs 0 0 Q (F0 m 89 ls []) := by
      intro v3_89 v4_89 v5_89 H locs ls hP hD hS hl h
      unfold f_Ai_longestWithin_X89 at h
      refine lv_iload_n hx hb d_Ai_longestWithin_89 rfl (lv_at hl 3 rfl) ?_
      cases h
    have K23 : ∀ (n : Nat) (v3_23 : Int32) (v4_23 : Int32) (v5_23 : Int32) (H : Heap) (locs : List Loc) (ls : Array Slot), va_P D vwCl (wAi xAi cI cZ gAi) H → va_D A (wAi xAi cI cZ gAi) → va_S A s.heap H locs → lv_has ls 7 [(0, .ref (xAi 0)), (1, .int p1), (2, .int p2), (3, .int v3_23), (4, .int v4_23), (5, .int v5_23)] → it3 (f_Ai_longestWithin_L23 gAi p1 p2) n v3_23 v4_23 v5_23 = some (.inr E) → W p l e rm_Ai_longestWithin_t s m args below meth c H locs 0 0 Q (F0 m 23 ls []) := by
      intro n
      induction n with
      | zero => intro v3_23 v4_23 v5_23 H locs ls hP hD hS hl h; exact (it3_0 h).elim
      | succ n ih =>
        intro v3_23 v4_23 v5_23 H locs ls hP hD hS hl h
        rw [it3_s, f_Ai_longestWithin_L23] at h
        generalize it3 (f_Ai_longestWithin_L23 gAi p1 p2) n = kc_23 at h ih
        refine lv_iload hx hb d_Ai_longestWithin_23 (lv_at hl 5 rfl) ?_
        refine lv_aload_n hx hb d_Ai_longestWithin_25 rfl (lv_at hl 0 rfl) ?_
        refine va_get (ci := 0) (v := .int (gAi 0 1)) (C := R_Ai) (T := F_Ai) (N := 3) hx hb hts i_Ai hown hK hP 0 rfl rfl 1 (by decide) (hts _ m_162) (fun _ h9 => h9) rfl d_Ai_longestWithin_26 ?_
        refine lv_icmp_ge (tgt := 89) hx hb d_Ai_longestWithin_29 (by decide) (fun c_2 => ?_) (fun c_2 => ?_)
        · rw [if_pos c_2] at h
          exact K89 v3_23 v4_23 v5_23 H locs ls hP hD hS (lv_sub hl [0, 1, 2, 3, 4, 5] rfl) h
        · rw [if_neg c_2] at h
          refine lv_aload_n hx hb d_Ai_longestWithin_32 rfl (lv_at hl 0 rfl) ?_
          refine va_get (ci := 0) (v := .ref (xAi 1)) (C := R_Ai) (T := F_Ai) (N := 3) hx hb hts i_Ai hown hK hP 0 rfl rfl 0 (by decide) (hts _ m_161) (fun _ h9 => h9) rfl d_Ai_longestWithin_33 ?_
          refine lv_iload hx hb d_Ai_longestWithin_36 (lv_at hl 5 rfl) ?_
          obtain ⟨hi_3, h⟩ := gb_i h
          refine va_iald hx hb hK hP 1 0 rfl rfl (inb_in hi_3) d_Ai_longestWithin_38 ?_
          obtain ⟨x_4, ex_4, h⟩ := letb_i h
          refine lv_topn ex_4 ?_
          refine lv_iload_n hx hb d_Ai_longestWithin_39 rfl (lv_at hl 1 rfl) ?_
          have K59 : ∀ (s0_59 : Int32) (v3_59 : Int32) (v4_59 : Int32) (v5_59 : Int32) (H : Heap) (locs : List Loc) (ls : Array Slot), va_P D vwCl (wAi xAi cI cZ gAi) H → va_D A (wAi xAi cI cZ gAi) → va_S A s.heap H locs → lv_has ls 7 [(0, .ref (xAi 0)), (1, .int p1), (2, .int p2), (3, .int v3_59), (4, .int v4_59), (5, .int v5_59)] → f_Ai_longestWithin_J59 kc_23 s0_59 v3_59 v4_59 v5_59 = some (.inr E) → W p l e rm_Ai_longestWithin_t s m args below meth c H locs 0 0 Q (F0 m 59 ls [.int s0_59]) := by
            intro s0_59 v3_59 v4_59 v5_59 H locs ls hP hD hS hl h
            unfold f_Ai_longestWithin_J59 at h
            refine lv_istore (lv' := [(6, .int s0_59), (0, .ref (xAi 0)), (1, .int p1), (2, .int p2), (3, .int v3_59), (4, .int v4_59), (5, .int v5_59)]) hx hb d_Ai_longestWithin_59 hl (by decide) rfl (fun ls hl => ?_)
            refine lv_iload hx hb d_Ai_longestWithin_61 (lv_at hl 0 rfl) ?_
            have K74 : ∀ (s0_74 : Int32) (v3_74 : Int32) (v4_74 : Int32) (v5_74 : Int32) (v6_74 : Int32) (H : Heap) (locs : List Loc) (ls : Array Slot), va_P D vwCl (wAi xAi cI cZ gAi) H → va_D A (wAi xAi cI cZ gAi) → va_S A s.heap H locs → lv_has ls 7 [(0, .ref (xAi 0)), (1, .int p1), (2, .int p2), (3, .int v3_74), (4, .int v4_74), (5, .int v5_74), (6, .int v6_74)] → f_Ai_longestWithin_J74 kc_23 s0_74 v3_74 v4_74 v5_74 v6_74 = some (.inr E) → W p l e rm_Ai_longestWithin_t s m args below meth c H locs 0 0 Q (F0 m 74 ls [.int s0_74]) := by
              intro s0_74 v3_74 v4_74 v5_74 v6_74 H locs ls hP hD hS hl h
              unfold f_Ai_longestWithin_J74 at h
              refine lv_istore (lv' := [(4, .int s0_74), (0, .ref (xAi 0)), (1, .int p1), (2, .int p2), (3, .int v3_74), (5, .int v5_74), (6, .int v6_74)]) hx hb d_Ai_longestWithin_74 hl (by decide) rfl (fun ls hl => ?_)
              refine lv_iload_n hx hb d_Ai_longestWithin_76 rfl (lv_at hl 4 rfl) ?_
              refine lv_iload hx hb d_Ai_longestWithin_77 (lv_at hl 0 rfl) ?_
              obtain ⟨r_5, hc_6, h⟩ := xv1_i h
              refine cSi (As := [.int v3_74, .int s0_74]) (rest := []) C0 hP hD hS hl.1 [] (c_Ma_max_r l D cI cZ cJ  H.size v3_74 s0_74 r_5 hc_6) k_Ma_max m_607 rfl rfl rfl ⟨by decide, by decide⟩ ⟨rfl, rfl⟩ rfl (Nat.le_of_ble_eq_true rfl) d_Ai_longestWithin_79 ⟨Nat.zero_le _, Nat.zero_le _⟩ (fun H locs hP hD hS => ?_)
              have hP : va_P D vwCl (wAi xAi cI cZ gAi) H := hP
              have hD : va_D A (wAi xAi cI cZ gAi) := hD
              refine lv_istore_n (lv' := [(3, .int r_5), (4, .int s0_74), (0, .ref (xAi 0)), (1, .int p1), (2, .int p2), (5, .int v5_74), (6, .int v6_74)]) hx hb d_Ai_longestWithin_82 rfl hl (by decide) rfl (fun ls hl => ?_)
              obtain ⟨x_7, ex_7, h⟩ := letb_i h
              refine lv_iinc (v := x_7) (lv' := [(5, .int x_7), (3, .int r_5), (4, .int s0_74), (0, .ref (xAi 0)), (1, .int p1), (2, .int p2), (6, .int v6_74)]) hx hb d_Ai_longestWithin_83 hl (k := 5) rfl (by rw [ex_7]; rfl) (by decide) rfl (fun ls hl => ?_)
              refine lv_goto (tgt := 23) hx hb d_Ai_longestWithin_86 (by decide) ?_
              exact ih r_5 s0_74 x_7 H locs ls hP hD hS (lv_sub hl [3, 4, 5, 1, 2, 0] rfl) h
            refine lv_if_eq (tgt := 73) hx hb d_Ai_longestWithin_63 (by decide) (fun c_8 => ?_) (fun c_8 => ?_)
            · rw [if_pos c_8] at h
              refine lv_iconst (v := 0) hx hb d_Ai_longestWithin_73 (by decide) ?_
              exact K74 0 v3_59 v4_59 v5_59 s0_59 H locs ls hP hD hS (lv_sub hl [1, 2, 3, 4, 5, 6, 0] rfl) h
            · rw [if_neg c_8] at h
              refine lv_iload hx hb d_Ai_longestWithin_66 (lv_at hl 5 rfl) ?_
              refine lv_iconst (v := 1) hx hb d_Ai_longestWithin_68 (by decide) ?_
              refine lv_iadd hx hb d_Ai_longestWithin_69 ?_
              refine lv_goto (tgt := 74) hx hb d_Ai_longestWithin_70 (by decide) ?_
              exact K74 (v4_59 + 1) v3_59 v4_59 v5_59 s0_59 H locs ls hP hD hS (lv_sub hl [1, 2, 3, 4, 5, 6, 0] rfl) h
          have K58 : ∀ (v3_58 : Int32) (v4_58 : Int32) (v5_58 : Int32) (H : Heap) (locs : List Loc) (ls : Array Slot), va_P D vwCl (wAi xAi cI cZ gAi) H → va_D A (wAi xAi cI cZ gAi) → va_S A s.heap H locs → lv_has ls 7 [(0, .ref (xAi 0)), (1, .int p1), (2, .int p2), (3, .int v3_58), (4, .int v4_58), (5, .int v5_58)] → f_Ai_longestWithin_J58 kc_23 v3_58 v4_58 v5_58 = some (.inr E) → W p l e rm_Ai_longestWithin_t s m args below meth c H locs 0 0 Q (F0 m 58 ls []) := by
            intro v3_58 v4_58 v5_58 H locs ls hP hD hS hl h
            unfold f_Ai_longestWithin_J58 at h
            refine lv_iconst (v := 0) hx hb d_Ai_longestWithin_58 (by decide) ?_
            exact K59 0 v3_58 v4_58 v5_58 H locs ls hP hD hS (lv_sub hl [0, 1, 2, 3, 4, 5] rfl) h
          refine lv_icmp_lt (tgt := 58) hx hb d_Ai_longestWithin_40 (by decide) (fun c_9 => ?_) (fun c_9 => ?_)
          · rw [if_pos c_9] at h
            exact K58 v3_23 v4_23 v5_23 H locs ls hP hD hS (lv_sub hl [0, 1, 2, 3, 4, 5] rfl) h
          · rw [if_neg c_9] at h
            refine lv_aload_n hx hb d_Ai_longestWithin_43 rfl (lv_at hl 0 rfl) ?_
            refine va_get (ci := 0) (v := .ref (xAi 1)) (C := R_Ai) (T := F_Ai) (N := 3) hx hb hts i_Ai hown hK hP 0 rfl rfl 0 (by decide) (hts _ m_161) (fun _ h9 => h9) rfl d_Ai_longestWithin_44 ?_
            refine lv_iload hx hb d_Ai_longestWithin_47 (lv_at hl 5 rfl) ?_
            obtain ⟨hi_10, h⟩ := gb_i h
            refine va_iald hx hb hK hP 1 0 rfl rfl (inb_in hi_10) d_Ai_longestWithin_49 ?_
            obtain ⟨x_11, ex_11, h⟩ := letb_i h
            refine lv_topn ex_11 ?_
            refine lv_iload_n hx hb d_Ai_longestWithin_50 rfl (lv_at hl 2 rfl) ?_
            refine lv_icmp_gt (tgt := 58) hx hb d_Ai_longestWithin_51 (by decide) (fun c_12 => ?_) (fun c_12 => ?_)
            · rw [if_pos c_12] at h
              exact K58 v3_23 v4_23 v5_23 H locs ls hP hD hS (lv_sub hl [0, 1, 2, 3, 4, 5] rfl) h
            · rw [if_neg c_12] at h
              refine lv_iconst (v := 1) hx hb d_Ai_longestWithin_54 (by decide) ?_
              refine lv_goto (tgt := 59) hx hb d_Ai_longestWithin_55 (by decide) ?_
              exact K59 1 v3_23 v4_23 v5_23 H locs ls hP hD hS (lv_sub hl [0, 1, 2, 3, 4, 5] rfl) h
    exact K23 FU 0 0 0 H locs ls hP hD hS (lv_sub hl [3, 4, 5, 2, 1, 0] rfl) h
  · rw [if_neg c_1] at h
    cases h
    rw [hQ]
    exact x_new C0 hAe hltr hno hlk hP hD hS hl.1 t_Ai_44 d_Ai_longestWithin_5 d_Ai_longestWithin_8 d_Ai_longestWithin_9 d_Ai_longestWithin_11 d_Ai_longestWithin_14 ⟨by decide, Nat.le_of_ble_eq_true rfl, by decide, by decide⟩
end
