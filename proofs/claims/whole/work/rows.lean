section
-- ===== PART A: goes FIRST, ahead of the names: the tables' words, and 'selects' of the private methods out of them =====
/-- a private method of a class that the tables say can be made, by its rows of tables_1 -/
def lw_okq (q : MethodName × Nat) : Prop := (q.1.cls ≠ "java/lang/invoke/MethodHandle" ∧ q.1.cls ≠ "java/lang/invoke/VarHandle") ∧ Cond.instantiable q.1.cls q.2 ∈ tables_1 ∧ Cond.privateMethod q.1 ∈ tables_1 ∧ Cond.instanceMethod q.1 ∈ tables_1
theorem lw_p0 : lw_okq (⟨"java/lang/Throwable", "fillInStackTrace", "(I)Ljava/lang/Throwable;"⟩, 6) := ⟨⟨by decide +kernel, by decide +kernel⟩, List.mem_of_getElem? (i := 261) (by decide +kernel), List.mem_of_getElem? (i := 259) (by decide +kernel), List.mem_of_getElem? (i := 260) (by decide +kernel)⟩
theorem lw_p1 : lw_okq (⟨"CrateCushions$Foams", "placeOf", "(II)I"⟩, 5) := ⟨⟨by decide +kernel, by decide +kernel⟩, List.mem_of_getElem? (i := 57) (by decide +kernel), List.mem_of_getElem? (i := 367) (by decide +kernel), List.mem_of_getElem? (i := 368) (by decide +kernel)⟩
theorem lw_p2 : lw_okq (⟨"CrateCushions$Foams", "valueBetween", "(III)I"⟩, 5) := ⟨⟨by decide +kernel, by decide +kernel⟩, List.mem_of_getElem? (i := 57) (by decide +kernel), List.mem_of_getElem? (i := 382) (by decide +kernel), List.mem_of_getElem? (i := 383) (by decide +kernel)⟩
theorem lw_p3 : lw_okq (⟨"CrateCushions$Packing", "findLeast", "(LCrateCushions$Goods;)V"⟩, 8) := ⟨⟨by decide +kernel, by decide +kernel⟩, List.mem_of_getElem? (i := 79) (by decide +kernel), List.mem_of_getElem? (i := 426) (by decide +kernel), List.mem_of_getElem? (i := 427) (by decide +kernel)⟩
theorem lw_p4 : lw_okq (⟨"CrateCushions$Packing", "tryWithin", "(LCrateCushions$Goods;II)V"⟩, 8) := ⟨⟨by decide +kernel, by decide +kernel⟩, List.mem_of_getElem? (i := 79) (by decide +kernel), List.mem_of_getElem? (i := 431) (by decide +kernel), List.mem_of_getElem? (i := 432) (by decide +kernel)⟩
theorem lw_p5 : lw_okq (⟨"CrateCushions$Packing", "triedIsLower", "()Z"⟩, 8) := ⟨⟨by decide +kernel, by decide +kernel⟩, List.mem_of_getElem? (i := 79) (by decide +kernel), List.mem_of_getElem? (i := 450) (by decide +kernel), List.mem_of_getElem? (i := 451) (by decide +kernel)⟩
theorem lw_p6 : lw_okq (⟨"CrateCushions$Packing", "keep", "(III)V"⟩, 8) := ⟨⟨by decide +kernel, by decide +kernel⟩, List.mem_of_getElem? (i := 79) (by decide +kernel), List.mem_of_getElem? (i := 454) (by decide +kernel), List.mem_of_getElem? (i := 455) (by decide +kernel)⟩
theorem lw_p7 : lw_okq (⟨"CrateCushions$Packing", "placeInRow", "(LCrateCushions$Goods;)V"⟩, 8) := ⟨⟨by decide +kernel, by decide +kernel⟩, List.mem_of_getElem? (i := 79) (by decide +kernel), List.mem_of_getElem? (i := 461) (by decide +kernel), List.mem_of_getElem? (i := 462) (by decide +kernel)⟩
theorem lw_p8 : lw_okq (⟨"CrateCushions$Packing", "requirePacked", "()V"⟩, 8) := ⟨⟨by decide +kernel, by decide +kernel⟩, List.mem_of_getElem? (i := 79) (by decide +kernel), List.mem_of_getElem? (i := 483) (by decide +kernel), List.mem_of_getElem? (i := 484) (by decide +kernel)⟩
theorem lw_p9 : lw_okq (⟨"CrateCushions$Stock", "hasRoom", "(IIII)Z"⟩, 5) := ⟨⟨by decide +kernel, by decide +kernel⟩, List.mem_of_getElem? (i := 110) (by decide +kernel), List.mem_of_getElem? (i := 528) (by decide +kernel), List.mem_of_getElem? (i := 529) (by decide +kernel)⟩
theorem lw_p10 : lw_okq (⟨"CrateCushions$Goods", "partSet", "(II)V"⟩, 6) := ⟨⟨by decide +kernel, by decide +kernel⟩, List.mem_of_getElem? (i := 28) (by decide +kernel), List.mem_of_getElem? (i := 558) (by decide +kernel), List.mem_of_getElem? (i := 559) (by decide +kernel)⟩
theorem lw_p11 : lw_okq (⟨"CrateCushionsModel", "goes", "(ZZZ)Z"⟩, 31) := ⟨⟨by decide +kernel, by decide +kernel⟩, List.mem_of_getElem? (i := 677) (by decide +kernel), List.mem_of_getElem? (i := 789) (by decide +kernel), List.mem_of_getElem? (i := 790) (by decide +kernel)⟩
theorem lw_p12 : lw_okq (⟨"CrateCushionsModel", "isObject", "(I)Z"⟩, 31) := ⟨⟨by decide +kernel, by decide +kernel⟩, List.mem_of_getElem? (i := 677) (by decide +kernel), List.mem_of_getElem? (i := 797) (by decide +kernel), List.mem_of_getElem? (i := 798) (by decide +kernel)⟩
theorem lw_p13 : lw_okq (⟨"CrateCushionsModel", "isRow", "(II)Z"⟩, 31) := ⟨⟨by decide +kernel, by decide +kernel⟩, List.mem_of_getElem? (i := 677) (by decide +kernel), List.mem_of_getElem? (i := 809) (by decide +kernel), List.mem_of_getElem? (i := 810) (by decide +kernel)⟩
theorem lw_p14 : lw_okq (⟨"CrateCushionsModel", "valueOf", "(II)I"⟩, 31) := ⟨⟨by decide +kernel, by decide +kernel⟩, List.mem_of_getElem? (i := 677) (by decide +kernel), List.mem_of_getElem? (i := 817) (by decide +kernel), List.mem_of_getElem? (i := 818) (by decide +kernel)⟩
theorem lw_p15 : lw_okq (⟨"CrateCushionsModel", "turn", "(II)V"⟩, 31) := ⟨⟨by decide +kernel, by decide +kernel⟩, List.mem_of_getElem? (i := 677) (by decide +kernel), List.mem_of_getElem? (i := 836) (by decide +kernel), List.mem_of_getElem? (i := 837) (by decide +kernel)⟩
def lw_privs_1 : List (MethodName × Nat) := [(⟨"java/lang/Throwable", "fillInStackTrace", "(I)Ljava/lang/Throwable;"⟩, 6), (⟨"CrateCushions$Foams", "placeOf", "(II)I"⟩, 5), (⟨"CrateCushions$Foams", "valueBetween", "(III)I"⟩, 5), (⟨"CrateCushions$Packing", "findLeast", "(LCrateCushions$Goods;)V"⟩, 8), (⟨"CrateCushions$Packing", "tryWithin", "(LCrateCushions$Goods;II)V"⟩, 8), (⟨"CrateCushions$Packing", "triedIsLower", "()Z"⟩, 8), (⟨"CrateCushions$Packing", "keep", "(III)V"⟩, 8), (⟨"CrateCushions$Packing", "placeInRow", "(LCrateCushions$Goods;)V"⟩, 8), (⟨"CrateCushions$Packing", "requirePacked", "()V"⟩, 8), (⟨"CrateCushions$Stock", "hasRoom", "(IIII)Z"⟩, 5), (⟨"CrateCushions$Goods", "partSet", "(II)V"⟩, 6), (⟨"CrateCushionsModel", "goes", "(ZZZ)Z"⟩, 31), (⟨"CrateCushionsModel", "isObject", "(I)Z"⟩, 31), (⟨"CrateCushionsModel", "isRow", "(II)Z"⟩, 31), (⟨"CrateCushionsModel", "valueOf", "(II)I"⟩, 31), (⟨"CrateCushionsModel", "turn", "(II)V"⟩, 31)]
theorem lw_r1 : ∀ q ∈ lw_privs_1, lw_okq q := List.forall_mem_cons.mpr ⟨lw_p0, List.forall_mem_cons.mpr ⟨lw_p1, List.forall_mem_cons.mpr ⟨lw_p2, List.forall_mem_cons.mpr ⟨lw_p3, List.forall_mem_cons.mpr ⟨lw_p4, List.forall_mem_cons.mpr ⟨lw_p5, List.forall_mem_cons.mpr ⟨lw_p6, List.forall_mem_cons.mpr ⟨lw_p7, List.forall_mem_cons.mpr ⟨lw_p8, List.forall_mem_cons.mpr ⟨lw_p9, List.forall_mem_cons.mpr ⟨lw_p10, List.forall_mem_cons.mpr ⟨lw_p11, List.forall_mem_cons.mpr ⟨lw_p12, List.forall_mem_cons.mpr ⟨lw_p13, List.forall_mem_cons.mpr ⟨lw_p14, List.forall_mem_cons.mpr ⟨lw_p15, fun _ h => absurd h List.not_mem_nil⟩⟩⟩⟩⟩⟩⟩⟩⟩⟩⟩⟩⟩⟩⟩⟩
theorem lw_p16 : lw_okq (⟨"CrateCushionsModel", "stands", "(I)Z"⟩, 31) := ⟨⟨by decide +kernel, by decide +kernel⟩, List.mem_of_getElem? (i := 677) (by decide +kernel), List.mem_of_getElem? (i := 840) (by decide +kernel), List.mem_of_getElem? (i := 841) (by decide +kernel)⟩
theorem lw_p17 : lw_okq (⟨"CrateCushionsModel", "lengthOf", "(II)I"⟩, 31) := ⟨⟨by decide +kernel, by decide +kernel⟩, List.mem_of_getElem? (i := 677) (by decide +kernel), List.mem_of_getElem? (i := 844) (by decide +kernel), List.mem_of_getElem? (i := 845) (by decide +kernel)⟩
theorem lw_p18 : lw_okq (⟨"CrateCushionsModel", "along", "(III)I"⟩, 31) := ⟨⟨by decide +kernel, by decide +kernel⟩, List.mem_of_getElem? (i := 677) (by decide +kernel), List.mem_of_getElem? (i := 848) (by decide +kernel), List.mem_of_getElem? (i := 849) (by decide +kernel)⟩
theorem lw_p19 : lw_okq (⟨"CrateCushionsModel", "widest", "(III)I"⟩, 31) := ⟨⟨by decide +kernel, by decide +kernel⟩, List.mem_of_getElem? (i := 677) (by decide +kernel), List.mem_of_getElem? (i := 852) (by decide +kernel), List.mem_of_getElem? (i := 853) (by decide +kernel)⟩
theorem lw_p20 : lw_okq (⟨"CrateCushionsModel", "hasRoom", "(I)Z"⟩, 31) := ⟨⟨by decide +kernel, by decide +kernel⟩, List.mem_of_getElem? (i := 677) (by decide +kernel), List.mem_of_getElem? (i := 872) (by decide +kernel), List.mem_of_getElem? (i := 873) (by decide +kernel)⟩
theorem lw_p21 : lw_okq (⟨"CrateCushionsModel", "weight", "(I)I"⟩, 31) := ⟨⟨by decide +kernel, by decide +kernel⟩, List.mem_of_getElem? (i := 677) (by decide +kernel), List.mem_of_getElem? (i := 884) (by decide +kernel), List.mem_of_getElem? (i := 885) (by decide +kernel)⟩
def lw_privs_2 : List (MethodName × Nat) := [(⟨"CrateCushionsModel", "stands", "(I)Z"⟩, 31), (⟨"CrateCushionsModel", "lengthOf", "(II)I"⟩, 31), (⟨"CrateCushionsModel", "along", "(III)I"⟩, 31), (⟨"CrateCushionsModel", "widest", "(III)I"⟩, 31), (⟨"CrateCushionsModel", "hasRoom", "(I)Z"⟩, 31), (⟨"CrateCushionsModel", "weight", "(I)I"⟩, 31)]
theorem lw_r2 : ∀ q ∈ lw_privs_2, lw_okq q := List.forall_mem_cons.mpr ⟨lw_p16, List.forall_mem_cons.mpr ⟨lw_p17, List.forall_mem_cons.mpr ⟨lw_p18, List.forall_mem_cons.mpr ⟨lw_p19, List.forall_mem_cons.mpr ⟨lw_p20, List.forall_mem_cons.mpr ⟨lw_p21, fun _ h => absurd h List.not_mem_nil⟩⟩⟩⟩⟩⟩
def lw_privs : List (MethodName × Nat) := lw_privs_1 ++ (lw_privs_2)
def lw_tbl : List Cond := k2_sels lw_privs ++ tables_1
theorem lw_privs_ok : ∀ q ∈ lw_privs, lw_okq q := by
  show ∀ q ∈ lw_privs_1 ++ (lw_privs_2), lw_okq q
  exact List.forall_mem_append.mpr ⟨lw_r1, lw_r2⟩
-- ===== end of PART A; then your names; then what follows =====
end
section
/-! ===== BEGIN words of one list among another's, by their places ===== -/
theorem goodIn_r {big : List Cond} (ws : List Cond) (ps : List Nat) (hp : ws = ps.filterMap (fun i => big[i]?)) (h : ws.all goodWord = true) : GoodIn big ws := by
  intro w hw
  have h1 := List.all_eq_true.mp h w hw
  rw [hp] at hw
  obtain ⟨i, -, hi⟩ := List.mem_filterMap.mp hw
  have hm : w ∈ big := by first | exact List.mem_of_getElem? hi | exact List.getElem?_mem hi
  exact ⟨hm, good_of_word h1⟩
theorem goodIn_app {big a b : List Cond} (ha : GoodIn big a) (hb : GoodIn big b) : GoodIn big (a ++ b) := fun w h => (List.mem_append.mp h).elim (ha w) (hb w)
theorem goodIn_ca {big a b : List Cond} {c : Cond} (ha : GoodIn big (c :: a)) (hb : GoodIn big b) : GoodIn big (c :: (a ++ b)) := fun w h => (List.mem_cons.mp h).elim (fun e => ha w (List.mem_cons.mpr (Or.inl e))) (fun h => (List.mem_append.mp h).elim (fun h => ha w (List.mem_cons.mpr (Or.inr h))) (hb w))
theorem goodIn_sub {big ws : List Cond} (hm : ∀ w ∈ ws, w ∈ big) (h : ws.all goodWord = true) : GoodIn big ws := fun w hw => ⟨hm w hw, good_of_word (List.all_eq_true.mp h w hw)⟩
/-! ===== END ===== -/

/-! ===== BEGIN exceptions that leave a method, and their catching by the caller (launches without stack traces) ===== -/
section VXA
/-! The laws vx_back, vx_callV, vx_callS, vx_callSW, vx_throw0, vx_throwS follow proofs of the library, with one case more: JvmDerived/Free/Laws.lean (Back.of_free), Shelf42/LK1.lean (callV, callS), Shelf/KitTraced.lean (throwNew0V, throwNewS). -/
/-- where a method has thrown q: the class by its name, the cell, what was written, the world -/
def vx_T (XC : String → State → State → Prop) (st : State) (q : Addr) (t : State) (mc ms : Nat) (free : Addr → Prop) : Prop :=
  ∃ (E : String) (ce : Cell) (L : List Loc), XC E st t ∧ t.heap[q]? = some ce ∧ ce.vm = .none ∧ st.vm.findClass E = some ce.cls ∧ st.WarmedH t.vm ∧ st.sameButNew ({ t with vm := st.vm } : State) L mc ms ∧ ∀ z ∈ L, free z.base
def vx_Q (Qc : Array Value → State → Outcome → State → Prop) (XC : String → State → State → Prop) (mc ms : Nat) (free : Addr → Prop) : Array Value → State → Outcome → State → Prop := fun a st o t =>
  (Qc a st o t ∧ ∃ L, FrameEnd st o t L mc ms ∧ ∀ q ∈ L, free q.base) ∨ ∃ q, o = .threw q ∧ vx_T XC st q t mc ms free
/-- a callee that returns or throws -/
def vx_Met (l : Launch) (y : MethodName) (ws : List Cond) (rm : Room) (Pc : Array Value → State → Prop) (Qc : Array Value → State → Outcome → State → Prop) (XC : String → State → State → Prop) (mc ms : Nat) (free : Addr → Prop) : Prop :=
  MetFree l y (headSpec ws rm) Pc (fun _ _ _ _ _ => True) (vx_Q Qc XC mc ms free)
def vx_Post (XC : String → State → State → Prop) (mc ms : Nat) (free : Addr → Prop) : Pt → Array Value → Addr → Pt → Prop := fun A a q B =>
  ∃ (g : JFrame) (mk : MethodId) (t : State) (L : List Loc) (E : String) (ce : Cell), B.U.heap = t.heap ∧ B.U.vm = t.vm ∧ XC E (A.U.calling g mk a) t ∧ t.heap[q]? = some ce ∧ ce.vm = .none ∧ A.U.vm.findClass E = some ce.cls ∧ B.locs = A.locs ++ L ∧ (∀ z ∈ L, free z.base) ∧ B.cells = A.cells + mc ∧ B.slots = A.slots + ms
def vx_Back (l : Launch) (R : Room) (p : Program) (e : Env) (below : List Frame) (s : State) (sargs : Array Value) (y : MethodName) (len W9 : Nat)
    (Pre : Pt → Array Value → Prop) (Post : Pt → Array Value → Option Value → Pt → Prop) (PostX : Pt → Array Value → Addr → Pt → Prop) : Prop :=
  ∀ (m : MethodId) (meth : Method) (c : Code) (A : Pt) (g : JFrame) (ig : Instr) (mk : MethodId) (a : Array Value),
    Stand p l e R s m sargs below meth c A.U A.locs A.cells A.slots → g.method = m → g.locals.size = c.maxLocals → decode c.code g.pc = .ok (ig, len) →
    2 * g.monitorRoom + (g.stack.map fun v => v.category).sum ≤ W9 → A.U.methodNamed? y = some mk → Pre A a →
    (∃ (v : Option Value) (B : Pt), Stand p l e R s m sargs below meth c B.U B.locs B.cells B.slots ∧ Post A a v B ∧
      Steps p.tables e below (doInvoke e (A.U.setTop g) [] mk a).1 (B.U.setTop { g with pc := g.pc + len, stack := v.toList ++ g.stack })) ∨
    (∃ (q : Addr) (B : Pt), Stand p l e R s m sargs below meth c B.U B.locs B.cells B.slots ∧ PostX A a q B ∧
      Steps p.tables e below (doInvoke e (A.U.setTop g) [] mk a).1 ((B.U.setTop g).pushFrame (.throwing q)))
section Payer
variable {l : Launch} {R : Room} {p : Program} {e : Env} {below : List Frame} {s : State} {sargs : Array Value} {y : MethodName} {len W9 : Nat}
theorem vx_back {ws : List Cond} {rm : Room} {Pc : Array Value → State → Prop} {Qc : Array Value → State → Outcome → State → Prop} {XC : String → State → State → Prop} {mc ms : Nat} {free : Addr → Prop} {bytes : ByteArray} {maxL : Nat} {ret : Option FieldType}
    (hM : vx_Met l y ws rm Pc Qc XC mc ms free) (hblind : FrameBlind Pc) (hrc : rm.cells = mc) (hrs : rm.slots = ms)
    (hframes : rm.frames + 1 ≤ R.frames) (hlocals : W9 + (maxL + 11) + rm.locals ≤ R.locals)
    (hws : ∀ w ∈ ws, ∀ a' U, s.WarmedH U.vm → w.before a' U = true) (hcode : Cond.code y bytes maxL ret ∈ ws) (hinit : ∀ a' U, s.WarmedH U.vm → (Cond.initialized y.cls).before a' U = true) :
    vx_Back l R p e below s sargs y len W9 (PreOf R mc ms Pc) (PostOf Qc mc ms free) (vx_Post XC mc ms free) := by
  intro m meth c A g ig mk a X hg hsize hdg hW hn hp
  have h1 : (headSpec ws rm).pre.before a A.U = true := atoms_intro fun w hw => hws w hw _ _ X.warmed
  have h2 : (Cond.code y bytes maxL ret).before a A.U = true := hws _ hcode _ _ X.warmed
  have h3 : (Cond.initialized y.cls).before a A.U = true := hinit _ _ X.warmed
  have h4 : A.cells + (headSpec ws rm).room.cells ≤ R.cells := by rw [show (headSpec ws rm).room.cells = mc from hrc]; exact hp.1
  have h5 : A.slots + (headSpec ws rm).room.slots ≤ R.slots := by rw [show (headSpec ws rm).room.slots = ms from hrs]; exact hp.2.1
  have hPc : Pc a (A.U.calling g mk a) := hblind _ _ _ _ hp.2.2
  obtain ⟨U, Ls, c0, s0⟩ := A
  dsimp only [Pt.U, Pt.locs, Pt.cells, Pt.slots] at h1 h2 h3 h4 h5 X hn hPc ⊢
  obtain ⟨methY, cY, hmY, hcY, -, hlY, -, -, -, -⟩ := Cond.code_spec hn h2
  obtain ⟨kY, hkY, -⟩ := className_of_methodNamed hn
  have hinitY : kY.init = .initialized := Cond.initialized_spec (findClass_of_methodNamed hn) hkY h3
  have h : At U g.method c below := by rw [hg]; exact X.here
  have hlocals9 : W9 + (maxL + 11) + (headSpec ws rm).room.locals ≤ R.locals := hlocals
  have happ : (headSpec ws rm).appliesLoose y e.platform (U.calling g mk a) = true :=
    Spec.appliesLoose_calling (g := g) h hdg hn hkY hinitY
      (X.room_calling (g := g) (R' := (headSpec ws rm).room) hsize hmY hcY hframes (by rw [hlY]; omega) h4 h5) h1
  obtain ⟨mid, hmid⟩ := h.above
  have hfr : (U.setTop g).frames = (.java g :: mid) ++ below := by rw [State.frames_setTop' g h.top, hmid]; rfl
  obtain ⟨o, s₂, hsteps, -, hend, hq⟩ := Steps.callFree hM p X.admits X.cas X.clock (acts := []) hfr happ hPc trivial
  have hq' : vx_Q Qc XC mc ms free a (U.calling g mk a) o s₂ := hq
  rw [State.frames_setTop' g h.top] at hend
  obtain ⟨g₀, hg0⟩ := Option.isSome_iff_exists.mp h.top
  obtain ⟨r, hr⟩ := State.topJava?_eq_some.mp hg0
  have hr' : (({ U with heap := s₂.heap, slotsUsed := s₂.slotsUsed } : State).setVm s₂.vm).frames = .java g₀ :: r := hr
  rcases hq' with ⟨hqc, L, hfe, hL⟩ | ⟨q, rfl, E, ce, L, hx, hce, hcv, hcl, hW₂, hsm, hL⟩
  · obtain ⟨⟨v, rfl⟩, hW₂, e2, q2, q3, q4, q5, q6⟩ := id hfe
    have e3 : s₂ = ({ (U.calling g mk a).setFrames s₂.frames with heap := s₂.heap, slotsUsed := s₂.slotsUsed } : State).setVm s₂.vm := by
      have : s₂ = ({ s₂ with vm := (U.calling g mk a).vm } : State).setVm s₂.vm := rfl
      rw [e2] at this
      exact this
    obtain ⟨c₂, i₂, len₂, hc₂, hd₂, hf₂⟩ := hend
    have hW' : U.WarmedH s₂.vm := hW₂
    have hcc : c₂ = c := by
      have h1 : s₂.code? g.method = U.code? g.method := by
        rw [State.code?_eq, State.code?_eq, hW'.alike.method?]
      exact Option.some.inj (hc₂.symm.trans (h1.trans h.code))
    subst hcc
    have hlen : len₂ = len := by rw [hdg] at hd₂; cases hd₂; rfl
    subst hlen
    have hs₂ : s₂ = (({ U with heap := s₂.heap, slotsUsed := s₂.slotsUsed } : State).setVm s₂.vm).setTop { g with pc := g.pc + len₂, stack := v.toList ++ g.stack } := by
      refine e3.trans ?_
      rw [hf₂, State.calling_eq h.top, State.setFrames_setFrames, State.setTop_of_frames _ hr', hr]
      rfl
    have hsame : U.sameButNew ({ U with heap := s₂.heap, slotsUsed := s₂.slotsUsed } : State) L mc ms := by
      refine ⟨?_, q2, q3, q4, q5, q6⟩
      obtain ⟨t, ht, -⟩ := State.frames_cons hr
      show ({ U with heap := s₂.heap, slotsUsed := s₂.slotsUsed } : State) = { U.setFrames U.frames with heap := s₂.heap, slotsUsed := s₂.slotsUsed }
      rw [State.setFrames_self ht]
    subst hg
    refine Or.inl ⟨v, ⟨(({ U with heap := s₂.heap, slotsUsed := s₂.slotsUsed } : State).setVm s₂.vm), Ls ++ L, c0 + mc, s0 + ms⟩,
      ⟨X.admits, X.cas, X.clock, X.frames, X.room, X.hears, X.method, X.code, (X.here.setHeapUsed s₂.heap s₂.slotsUsed).setVm hW'.alike, X.tail, State.WarmedH.trans X.warmed hW', X.limits, X.bytes, X.same.trans (hsame.setVm s.vm)⟩,
      ⟨g, mk, s₂, L, rfl, rfl, hqc, rfl, hL, rfl, rfl⟩, ?_⟩
    show Steps p.tables e below _ ((({ U with heap := s₂.heap, slotsUsed := s₂.slotsUsed } : State).setVm s₂.vm).setTop { g with pc := g.pc + len₂, stack := v.toList ++ g.stack })
    rw [← hs₂]
    exact hsteps
  · obtain ⟨e2, q2, q3, q4, q5, q6⟩ := id hsm
    have e3 : s₂ = ({ (U.calling g mk a).setFrames s₂.frames with heap := s₂.heap, slotsUsed := s₂.slotsUsed } : State).setVm s₂.vm := by
      have : s₂ = ({ s₂ with vm := (U.calling g mk a).vm } : State).setVm s₂.vm := rfl
      rw [e2] at this
      exact this
    have hf₂ : s₂.frames = .throwing q :: .java g :: U.frames.tail := hend
    have hW' : U.WarmedH s₂.vm := hW₂
    have hs₂ : s₂ = ((({ U with heap := s₂.heap, slotsUsed := s₂.slotsUsed } : State).setVm s₂.vm).setTop g).pushFrame (.throwing q) := by
      refine e3.trans ?_
      rw [hf₂, State.calling_eq h.top, State.setFrames_setFrames, State.pushFrame, State.frames_setTop _ hr', State.setTop_of_frames _ hr', State.setFrames_setFrames, hr]
      rfl
    have hsame : U.sameButNew ({ U with heap := s₂.heap, slotsUsed := s₂.slotsUsed } : State) L mc ms := by
      refine ⟨?_, q2, q3, q4, q5, q6⟩
      obtain ⟨t, ht, -⟩ := State.frames_cons hr
      show ({ U with heap := s₂.heap, slotsUsed := s₂.slotsUsed } : State) = { U.setFrames U.frames with heap := s₂.heap, slotsUsed := s₂.slotsUsed }
      rw [State.setFrames_self ht]
    subst hg
    refine Or.inr ⟨q, ⟨(({ U with heap := s₂.heap, slotsUsed := s₂.slotsUsed } : State).setVm s₂.vm), Ls ++ L, c0 + mc, s0 + ms⟩,
      ⟨X.admits, X.cas, X.clock, X.frames, X.room, X.hears, X.method, X.code, (X.here.setHeapUsed s₂.heap s₂.slotsUsed).setVm hW'.alike, X.tail, State.WarmedH.trans X.warmed hW', X.limits, X.bytes, X.same.trans (hsame.setVm s.vm)⟩,
      ⟨g, mk, s₂, L, E, ce, rfl, rfl, hx, hce, hcv, hcl, rfl, hL, rfl, rfl⟩, ?_⟩
    show Steps p.tables e below _ (((({ U with heap := s₂.heap, slotsUsed := s₂.slotsUsed } : State).setVm s₂.vm).setTop g).pushFrame (.throwing q))
    rw [← hs₂]
    exact hsteps
end Payer
section Calls
variable {p : Program} {l : Launch} {e : Env} {R : Room} {s : State} {m : MethodId} {args : Array Value} {below : List Frame} {meth : Method} {c : Code} {T : State} {locs : List Loc} {cells slots : Nat}
theorem vx_callV (X : Stand p l e R s m args below meth c T locs cells slots) (hexec : p.tables.exec = Jvm.exec) {own C : String} {index : Nat} {y : MethodName} {bytes : ByteArray} {maxL : Nat} {ret : Option FieldType}
    (hown : s.vm.findClass own = some m.cls) (hlink : (Cond.methodLink own index y).before args s = true) (hinst : (Cond.instanceMethod y).before args s = true) (hsel : (Cond.selects C y y).before args s = true)
    (hcode : (Cond.code y bytes maxL ret).before args s = true) (hy : y.cls ≠ "java/lang/invoke/MethodHandle" ∧ y.cls ≠ "java/lang/invoke/VarHandle")
    {W9 : Nat} {Pre : Pt → Array Value → Prop} {Post : Pt → Array Value → Option Value → Pt → Prop} {PostX : Pt → Array Value → Addr → Pt → Prop} (hK : vx_Back l R p e below s args y 3 W9 Pre Post PostX)
    {b : Addr} {cellB : Cell} (hcell : T.heap[b]? = some cellB) (hobj : cellB.vm.isStatics = false) (hcls : s.vm.findClass C = some cellB.cls)
    {g : JFrame} (hg : g.method = m) (hsize : g.locals.size = c.maxLocals) {argsL rest : List Value} (hlen : ∀ sig, parseMethodDescriptor y.desc = some sig → argsL.length = sig.parameters.length)
    (hstack : g.stack = argsL.reverse ++ .ref b :: rest) (hW : 2 * g.monitorRoom + (rest.map fun v => v.category).sum ≤ W9) (hdg : decode c.code g.pc = .ok (.invokevirtual index, 3))
    (hpre : ∀ vm₁, s.WarmedH vm₁ → Pre ⟨T.setVm vm₁, locs, cells, slots⟩ (Value.ref b :: argsL).toArray) :
    (∃ (v : Option Value) (vm₁ : Vm) (B : Pt), s.WarmedH vm₁ ∧ Stand p l e R s m args below meth c B.U B.locs B.cells B.slots ∧ Post ⟨T.setVm vm₁, locs, cells, slots⟩ (Value.ref b :: argsL).toArray v B ∧
      ∀ target, Steps p.tables e below (B.U.setTop { g with pc := g.pc + 3, stack := v.toList ++ rest }) target → Steps p.tables e below (T.setTop g) target) ∨
    (∃ (q : Addr) (vm₁ : Vm) (B : Pt), s.WarmedH vm₁ ∧ Stand p l e R s m args below meth c B.U B.locs B.cells B.slots ∧ PostX ⟨T.setVm vm₁, locs, cells, slots⟩ (Value.ref b :: argsL).toArray q B ∧
      Steps p.tables e below (T.setTop g) ((B.U.setTop { g with stack := rest }).pushFrame (.throwing q))) := by
  obtain ⟨mk, methM, hnamed, hmethM, hstM, habM⟩ := Cond.instanceMethod_spec hinst
  obtain ⟨methM', cM, hmethM', -, -, -, -, -, -, hsigM⟩ := Cond.code_spec hnamed hcode
  cases hmethM.symm.trans hmethM'
  obtain ⟨c2, r2, m2, q1, q2, q3, q4, kP, hkP, hkPi⟩ := Cond.selects_spec hsel
  cases hcls.symm.trans q1
  cases (State.methodFound?_of_named hnamed hy).symm.trans q2
  cases hnamed.symm.trans q3
  have hselP : selectMethod e.platform s.vm cellB.cls mk = .method mk := by rw [Launch.admits_selectMethod X.admits]; exact q4
  obtain ⟨vm₁, X₁, hstep₁⟩ := X.invokevirtual hexec hown hlink hnamed hmethM hstM hkP hkPi hy (a := b) (cell := cellB) hcell
    (fun z h => by rw [h] at hobj; cases hobj) hselP hmethM habM hkP hkPi (g := g) hg (argsL := argsL) (rest := rest) (hlen _ hsigM) hstack hdg
  rcases hK m meth c ⟨T.setVm vm₁, locs, cells, slots⟩ { g with stack := rest } (.invokevirtual index) mk (Value.ref b :: argsL).toArray X₁ hg hsize hdg hW (X₁.named hnamed) (hpre vm₁ X₁.warmed) with ⟨v, B, X', hpost, hsteps⟩ | ⟨q, B, X', hpost, hsteps⟩
  · exact Or.inl ⟨v, vm₁, B, X₁.warmed, X', hpost, fun target h => hstep₁ _ fun acts => by rw [doInvoke_state]; exact hsteps.trans h⟩
  · exact Or.inr ⟨q, vm₁, B, X₁.warmed, X', hpost, hstep₁ _ fun acts => by rw [doInvoke_state]; exact hsteps⟩
theorem vx_callS (X : Stand p l e R s m args below meth c T locs cells slots) (hexec : p.tables.exec = Jvm.exec) {own : String} {index : Nat} {y : MethodName} {bytes : ByteArray} {maxL : Nat} {ret : Option FieldType}
    (hown : s.vm.findClass own = some m.cls) (hlink : (Cond.methodLink own index y).before args s = true) (hstat : (Cond.static y).before args s = true) (hinit : (Cond.initialized y.cls).before args s = true)
    (hcode : (Cond.code y bytes maxL ret).before args s = true) (hy : y.cls ≠ "java/lang/invoke/MethodHandle" ∧ y.cls ≠ "java/lang/invoke/VarHandle")
    {W9 : Nat} {Pre : Pt → Array Value → Prop} {Post : Pt → Array Value → Option Value → Pt → Prop} {PostX : Pt → Array Value → Addr → Pt → Prop} (hK : vx_Back l R p e below s args y 3 W9 Pre Post PostX)
    {g : JFrame} (hg : g.method = m) (hsize : g.locals.size = c.maxLocals) {argsL rest : List Value} (hlen : ∀ sig, parseMethodDescriptor y.desc = some sig → argsL.length = sig.parameters.length)
    (hstack : g.stack = argsL.reverse ++ rest) (hW : 2 * g.monitorRoom + (rest.map fun v => v.category).sum ≤ W9) (hdg : decode c.code g.pc = .ok (.invokestatic index, 3))
    (hpre : ∀ vm₁, s.WarmedH vm₁ → Pre ⟨T.setVm vm₁, locs, cells, slots⟩ argsL.toArray) :
    (∃ (v : Option Value) (vm₁ : Vm) (B : Pt), s.WarmedH vm₁ ∧ Stand p l e R s m args below meth c B.U B.locs B.cells B.slots ∧ Post ⟨T.setVm vm₁, locs, cells, slots⟩ argsL.toArray v B ∧
      ∀ target, Steps p.tables e below (B.U.setTop { g with pc := g.pc + 3, stack := v.toList ++ rest }) target → Steps p.tables e below (T.setTop g) target) ∨
    (∃ (q : Addr) (vm₁ : Vm) (B : Pt), s.WarmedH vm₁ ∧ Stand p l e R s m args below meth c B.U B.locs B.cells B.slots ∧ PostX ⟨T.setVm vm₁, locs, cells, slots⟩ argsL.toArray q B ∧
      Steps p.tables e below (T.setTop g) ((B.U.setTop { g with stack := rest }).pushFrame (.throwing q))) := by
  obtain ⟨mk, hnamed⟩ := Cond.code_named hcode
  obtain ⟨methM, cM, hmethM, -, -, -, -, -, -, hsigM⟩ := Cond.code_spec hnamed hcode
  have hstatic : methM.isStatic = true := Cond.static_spec hnamed hmethM hstat
  obtain ⟨kP, hkP, -⟩ := className_of_methodNamed hnamed
  have hinitP : kP.init = .initialized := Cond.initialized_spec (findClass_of_methodNamed hnamed) hkP hinit
  obtain ⟨vm₁, X₁, hstep₁⟩ := X.invokestatic hexec hown hlink hnamed hmethM hstatic hkP hinitP hy (g := g) hg (argsL := argsL) (rest := rest) (hlen _ hsigM) hstack hdg
  rcases hK m meth c ⟨T.setVm vm₁, locs, cells, slots⟩ { g with stack := rest } (.invokestatic index) mk argsL.toArray X₁ hg hsize hdg hW (X₁.named hnamed) (hpre vm₁ X₁.warmed) with ⟨v, B, X', hpost, hsteps⟩ | ⟨q, B, X', hpost, hsteps⟩
  · exact Or.inl ⟨v, vm₁, B, X₁.warmed, X', hpost, fun target h => hstep₁ _ fun acts => by rw [doInvoke_state]; exact hsteps.trans h⟩
  · exact Or.inr ⟨q, vm₁, B, X₁.warmed, X', hpost, hstep₁ _ fun acts => by rw [doInvoke_state]; exact hsteps⟩
end Calls
theorem vx_cls {s : State} {T : State} {vm₁ : Vm} {E : String} {k : ClassId} (hW : s.WarmedH vm₁) (h : (T.setVm vm₁).vm.findClass E = some k) : s.vm.findClass E = some k := by
  have h1 : vm₁.findClass E = some k := h
  rw [hW.alike.findClass] at h1
  exact h1
/-- the method's frame g, with q thrown over it -/
def vx_W (p : Program) (l : Launch) (e : Env) (R : Room) (s : State) (m : MethodId) (args : Array Value) (below : List Frame) (meth : Method) (c : Code) (H : Heap) (locs : List Loc) (cells slots : Nat) (Q : State → Prop) (g : JFrame) (q : Addr) : Prop :=
  ∀ T : State, T.heap = H → Stand p l e R s m args below meth c T locs cells slots → ∃ t, Steps p.tables e below ((T.setTop g).pushFrame (.throwing q)) t ∧ Q t
def vx_Run (p : Program) (l : Launch) (e : Env) (R : Room) (s : State) (m : MethodId) (args : Array Value) (below : List Frame) (meth : Method) (c : Code) (H : Heap) (locs : List Loc) (cells slots mc ms : Nat) (g : JFrame) (rest : List Value) (Qa : State → Outcome → State → Prop) (XC : String → State → State → Prop) (free : Addr → Prop) : Prop :=
  ∀ T : State, T.heap = H → Stand p l e R s m args below meth c T locs cells slots →
    (∃ (v : Option Value) (st₀ t T' : State) (L : List Loc), st₀.heap = H ∧ Stand p l e R s m args below meth c T' (locs ++ L) (cells + mc) (slots + ms) ∧ (∀ q ∈ L, free q.base) ∧ T'.heap = t.heap ∧ T'.vm = t.vm ∧ Qa st₀ (.returned v) t ∧
      Goes p e below T g T' { g with pc := g.pc + 3, stack := v.toList ++ rest }) ∨
    (∃ (q : Addr) (st₀ t T' : State) (L : List Loc) (E : String) (ce : Cell), st₀.heap = H ∧ Stand p l e R s m args below meth c T' (locs ++ L) (cells + mc) (slots + ms) ∧ (∀ z ∈ L, free z.base) ∧ T'.heap = t.heap ∧ T'.vm = t.vm ∧ XC E st₀ t ∧ t.heap[q]? = some ce ∧ ce.vm = .none ∧ s.vm.findClass E = some ce.cls ∧
      Steps p.tables e below (T.setTop g) ((T'.setTop { g with stack := rest }).pushFrame (.throwing q)))
def vx_X {S : Type} (px : S → Prop) (B : String → S → State → Prop) (A : Nat → Prop) : String → State → State → Prop := fun E st t => ∃ u : S, px u ∧ B E u t ∧ va_F A st t
section Runs
variable {p : Program} {l : Launch} {e : Env} {R : Room} {s : State} {m : MethodId} {args : Array Value} {below : List Frame} {meth : Method} {c : Code} {H : Heap} {locs : List Loc} {cells slots : Nat}
variable {y : MethodName} {bytes cc : ByteArray} {maxL nL mc ms n index : Nat} {ret : Option FieldType} {ws : List Cond} {rm : Room} {Pc : Array Value → State → Prop} {Qc : Array Value → State → Outcome → State → Prop} {XC : String → State → State → Prop} {free : Addr → Prop} {Ts : List Cond} {own C : String} {b : Addr} {As rest : List Value} {g : JFrame}
theorem vx_callBack (cb : CallB R s args own index y bytes maxL ret ws rm mc ms n) (hM : vx_Met l y ws rm Pc Qc XC mc ms free) (hbl : FrameBlind Pc) : vx_Back l R p e below s args y 3 8 (PreOf R mc ms Pc) (PostOf Qc mc ms free) (vx_Post XC mc ms free) := by
  obtain ⟨hrc, hrs, hfr, hlo, hws, hcw, -, hini, -⟩ := cb
  exact vx_back (bytes := bytes) (maxL := maxL) (ret := ret) hM hbl hrc hrs hfr hlo hws hcw (fun a' U hW => word_at hW (Or.inl (by first | rfl | simp [Cond.onTables, Cond.keeps, Cond.steady])) hini)
theorem vx_runV (S : CallFix p m c cc nL s args Ts own) (hM : vx_Met l y ws rm Pc Qc XC mc ms free) (cw : CallW R s args own C index y bytes maxL ret ws rm mc ms n) (hp : PreV s H C b Pc As)
    (hg : g.method = m) (hn : As.length = n) (hsize : g.locals.size = nL) (hstack : g.stack = As.reverse ++ .ref b :: rest) (hW : 2 * g.monitorRoom + (rest.map fun v => v.category).sum ≤ 8) (hdg : decode cc g.pc = .ok (.invokevirtual index, 3)) (hf : cells + mc ≤ R.cells ∧ slots + ms ≤ R.slots) :
    vx_Run p l e R s m args below meth c H locs cells slots mc ms g rest (Qc (Value.ref b :: As).toArray) XC free := by
  have hK : vx_Back l R p e below s args y 3 8 (PreOf R mc ms Pc) (PostOf Qc mc ms free) (vx_Post XC mc ms free) := vx_callBack cw.1 hM hp.1
  obtain ⟨⟨-, -, -, -, -, -, hcode, -, hy, hlen, hl⟩, hin, hse⟩ := cw
  obtain ⟨hx, hb, hml, ho, -⟩ := S
  obtain ⟨-, ⟨cellB, hcB, hoB, hclB⟩, hPc⟩ := hp
  intro T hT X
  rcases vx_callV X hx (C := C) (bytes := bytes) (maxL := maxL) (ret := ret) ho hl hin hse hcode hy hK (by rw [hT]; exact hcB) hoB hclB hg (hsize.trans hml.symm) (argsL := As) (rest := rest) (fun sig h => hn.trans (hlen sig h)) hstack hW (by rw [hb]; exact hdg)
    (fun vm₁ hW₁ => ⟨hf.1, hf.2, hPc (T.setVm vm₁) hT hW₁⟩) with ⟨v, vm₁, ⟨U', l2, c2, s2⟩, hW₁, X', ⟨g', mk, t, L, e1, e2, hq, h1, hL, h2, h3⟩, st⟩ | ⟨q, vm₁, ⟨U', l2, c2, s2⟩, hW₁, X', ⟨g', mk, t, L, E, ce, e1, e2, hq, hce, hcv, hcl, h1, hL, h2, h3⟩, st⟩
  · dsimp only [Pt.U, Pt.locs, Pt.cells, Pt.slots] at X' e1 e2 h1 h2 h3 st
    subst h1; subst h2; subst h3
    exact Or.inl ⟨v, (T.setVm vm₁).calling g' mk (Value.ref b :: As).toArray, t, U', L, hT, X', hL, e1, e2, hq, st⟩
  · dsimp only [Pt.U, Pt.locs, Pt.cells, Pt.slots] at X' e1 e2 h1 h2 h3 st hcl
    subst h1; subst h2; subst h3
    exact Or.inr ⟨q, (T.setVm vm₁).calling g' mk (Value.ref b :: As).toArray, t, U', L, E, ce, hT, X', hL, e1, e2, hq, hce, hcv, vx_cls hW₁ hcl, st⟩
theorem vx_runS (S : CallFix p m c cc nL s args Ts own) (hM : vx_Met l y ws rm Pc Qc XC mc ms free) (cw : CallB R s args own index y bytes maxL ret ws rm mc ms n ∧ (Cond.static y).before args s = true) (hp : PreS s H Pc As)
    (hg : g.method = m) (hn : As.length = n) (hsize : g.locals.size = nL) (hstack : g.stack = As.reverse ++ rest) (hW : 2 * g.monitorRoom + (rest.map fun v => v.category).sum ≤ 8) (hdg : decode cc g.pc = .ok (.invokestatic index, 3)) (hf : cells + mc ≤ R.cells ∧ slots + ms ≤ R.slots) :
    vx_Run p l e R s m args below meth c H locs cells slots mc ms g rest (Qc As.toArray) XC free := by
  have hK : vx_Back l R p e below s args y 3 8 (PreOf R mc ms Pc) (PostOf Qc mc ms free) (vx_Post XC mc ms free) := vx_callBack cw.1 hM hp.1
  obtain ⟨⟨-, -, -, -, -, -, hcode, hini, hy, hlen, hl⟩, hstt⟩ := cw
  obtain ⟨hx, hb, hml, ho, -⟩ := S
  intro T hT X
  rcases vx_callS X hx (bytes := bytes) (maxL := maxL) (ret := ret) ho hl hstt hini hcode hy hK hg (hsize.trans hml.symm) (argsL := As) (rest := rest) (fun sig h => hn.trans (hlen sig h)) hstack hW (by rw [hb]; exact hdg)
    (fun vm₁ hW₁ => ⟨hf.1, hf.2, hp.2 (T.setVm vm₁) hT hW₁⟩) with ⟨v, vm₁, ⟨U', l2, c2, s2⟩, hW₁, X', ⟨g', mk, t, L, e1, e2, hq, h1, hL, h2, h3⟩, st⟩ | ⟨q, vm₁, ⟨U', l2, c2, s2⟩, hW₁, X', ⟨g', mk, t, L, E, ce, e1, e2, hq, hce, hcv, hcl, h1, hL, h2, h3⟩, st⟩
  · dsimp only [Pt.U, Pt.locs, Pt.cells, Pt.slots] at X' e1 e2 h1 h2 h3 st
    subst h1; subst h2; subst h3
    exact Or.inl ⟨v, (T.setVm vm₁).calling g' mk As.toArray, t, U', L, hT, X', hL, e1, e2, hq, st⟩
  · dsimp only [Pt.U, Pt.locs, Pt.cells, Pt.slots] at X' e1 e2 h1 h2 h3 st hcl
    subst h1; subst h2; subst h3
    exact Or.inr ⟨q, (T.setVm vm₁).calling g' mk As.toArray, t, U', L, E, ce, hT, X', hL, e1, e2, hq, hce, hcv, vx_cls hW₁ hcl, st⟩
end Runs
section Rows
variable {p : Program} {l : Launch} {e : Env} {R : Room} {s : State} {m : MethodId} {args : Array Value} {below : List Frame} {meth : Method} {c : Code} {H : Heap} {locs : List Loc} {cells slots : Nat} {Q : State → Prop}
variable {mc ms : Nat} {free : Addr → Prop} {A0 A1 : Nat → Prop} {H0 : Heap} {a : Array Value} {pc : Nat} {ls : Array Slot} {st0 rest : List Value}
theorem vx_keep {st₀ t T' : State} {L : List Loc} (h0 : st₀.heap = H) (e1 : T'.heap = t.heap) (hS : va_S A0 H0 H locs) (hA : ∀ q, q < H.size → A1 q → A0 q) (hf : ∀ q, free q → A0 q) (hL : ∀ q ∈ L, free q.base) (hF : va_F A1 st₀ t) :
    H.size ≤ T'.heap.size ∧ (∀ q : Nat, q < H.size → ¬ A1 q → T'.heap[q]? = H[q]?) ∧ va_S A0 H0 T'.heap (locs ++ L) := by
  obtain ⟨hz, hk⟩ := hF
  rw [h0] at hz hk
  exact ⟨by rw [e1]; exact hz, fun q h1 h2 => by rw [e1]; exact hk q h1 h2,
    ⟨Nat.le_trans hS.1 (by rw [e1]; exact hz), fun q h1 h2 => by rw [e1, hk q (Nat.lt_of_lt_of_le h1 hS.1) (fun z => h2 (hA q (Nat.lt_of_lt_of_le h1 hS.1) z))]; exact hS.2.1 q h1 h2, fun q hq => by
      rcases List.mem_append.mp hq with h | h
      · exact hS.2.2 q h
      · exact hf _ (hL q h)⟩⟩
theorem vx_calli {S SX : Type} {post : Int32 → S → Prop} {px : SX → Prop} {B : S → State → Prop} {BX : String → SX → State → Prop} {AX : Nat → Prop} (hr : vx_Run p l e R s m args below meth c H locs cells slots mc ms (F0 m pc ls st0) rest (va_Qi post B A1 a) (vx_X px BX AX) free) (hS : va_S A0 H0 H locs) (hA : ∀ q, q < H.size → A1 q → A0 q) (hf : ∀ q, free q → A0 q) (hAX : ∀ q, q < H.size → AX q → A0 q)
    (kx : ∀ (E : String) (ce : Cell) (q9 : Addr) (u : SX) (t : State) (H1 : Heap) (locs1 : List Loc), t.heap = H1 → s.vm.Alike t.vm → px u → BX E u t → H.size ≤ H1.size → (∀ q : Nat, q < H.size → ¬ AX q → H1[q]? = H[q]?) → va_S A0 H0 H1 locs1 → H1[q9]? = some ce → ce.vm = .none → s.vm.findClass E = some ce.cls → vx_W p l e R s m args below meth c H1 locs1 (cells + mc) (slots + ms) Q (F0 m pc ls rest) q9)
    (kk : ∀ (r : Int32) (u : S) (t : State) (H1 : Heap) (locs1 : List Loc), t.heap = H1 → s.vm.Alike t.vm → post r u → B u t → H.size ≤ H1.size → (∀ q : Nat, q < H.size → ¬ A1 q → H1[q]? = H[q]?) → va_S A0 H0 H1 locs1 → W p l e R s m args below meth c H1 locs1 (cells + mc) (slots + ms) Q (F0 m (pc + 3) ls (.int r :: rest))) : W p l e R s m args below meth c H locs cells slots Q (F0 m pc ls st0) := by
  intro T hT X
  rcases hr T hT X with ⟨v, st₀, t, T', L, h0, X', hL, e1, e2, ⟨⟨r, u, hv, hp, hb⟩, hF⟩, st⟩ | ⟨q, st₀, t, T', L, E, ce, h0, X', hL, e1, e2, ⟨u, hp, hb, hF⟩, hce, hcv, hcl, st⟩
  · cases hv
    obtain ⟨k1, k2, k3⟩ := vx_keep h0 e1 hS hA hf hL hF
    obtain ⟨t2, a1, b1⟩ := kk r u t T'.heap (locs ++ L) e1.symm (by rw [← e2]; exact X'.warmed.alike) hp hb k1 k2 k3 T' rfl X'
    exact ⟨t2, st t2 a1, b1⟩
  · obtain ⟨k1, k2, k3⟩ := vx_keep h0 e1 hS hAX hf hL hF
    obtain ⟨t2, a1, b1⟩ := kx E ce q u t T'.heap (locs ++ L) e1.symm (by rw [← e2]; exact X'.warmed.alike) hp hb k1 k2 k3 (by rw [e1]; exact hce) hcv hcl T' rfl X'
    exact ⟨t2, st.trans a1, b1⟩
theorem vx_calll {S SX : Type} {post : Int64 → S → Prop} {px : SX → Prop} {B : S → State → Prop} {BX : String → SX → State → Prop} {AX : Nat → Prop} (hr : vx_Run p l e R s m args below meth c H locs cells slots mc ms (F0 m pc ls st0) rest (va_Ql post B A1 a) (vx_X px BX AX) free) (hS : va_S A0 H0 H locs) (hA : ∀ q, q < H.size → A1 q → A0 q) (hf : ∀ q, free q → A0 q) (hAX : ∀ q, q < H.size → AX q → A0 q)
    (kx : ∀ (E : String) (ce : Cell) (q9 : Addr) (u : SX) (t : State) (H1 : Heap) (locs1 : List Loc), t.heap = H1 → s.vm.Alike t.vm → px u → BX E u t → H.size ≤ H1.size → (∀ q : Nat, q < H.size → ¬ AX q → H1[q]? = H[q]?) → va_S A0 H0 H1 locs1 → H1[q9]? = some ce → ce.vm = .none → s.vm.findClass E = some ce.cls → vx_W p l e R s m args below meth c H1 locs1 (cells + mc) (slots + ms) Q (F0 m pc ls rest) q9)
    (kk : ∀ (r : Int64) (u : S) (t : State) (H1 : Heap) (locs1 : List Loc), t.heap = H1 → s.vm.Alike t.vm → post r u → B u t → H.size ≤ H1.size → (∀ q : Nat, q < H.size → ¬ A1 q → H1[q]? = H[q]?) → va_S A0 H0 H1 locs1 → W p l e R s m args below meth c H1 locs1 (cells + mc) (slots + ms) Q (F0 m (pc + 3) ls (.long r :: rest))) : W p l e R s m args below meth c H locs cells slots Q (F0 m pc ls st0) := by
  intro T hT X
  rcases hr T hT X with ⟨v, st₀, t, T', L, h0, X', hL, e1, e2, ⟨⟨r, u, hv, hp, hb⟩, hF⟩, st⟩ | ⟨q, st₀, t, T', L, E, ce, h0, X', hL, e1, e2, ⟨u, hp, hb, hF⟩, hce, hcv, hcl, st⟩
  · cases hv
    obtain ⟨k1, k2, k3⟩ := vx_keep h0 e1 hS hA hf hL hF
    obtain ⟨t2, a1, b1⟩ := kk r u t T'.heap (locs ++ L) e1.symm (by rw [← e2]; exact X'.warmed.alike) hp hb k1 k2 k3 T' rfl X'
    exact ⟨t2, st t2 a1, b1⟩
  · obtain ⟨k1, k2, k3⟩ := vx_keep h0 e1 hS hAX hf hL hF
    obtain ⟨t2, a1, b1⟩ := kx E ce q u t T'.heap (locs ++ L) e1.symm (by rw [← e2]; exact X'.warmed.alike) hp hb k1 k2 k3 (by rw [e1]; exact hce) hcv hcl T' rfl X'
    exact ⟨t2, st.trans a1, b1⟩
theorem vx_callf {S SX : Type} {post : UInt32 → S → Prop} {px : SX → Prop} {B : S → State → Prop} {BX : String → SX → State → Prop} {AX : Nat → Prop} (hr : vx_Run p l e R s m args below meth c H locs cells slots mc ms (F0 m pc ls st0) rest (va_Qf post B A1 a) (vx_X px BX AX) free) (hS : va_S A0 H0 H locs) (hA : ∀ q, q < H.size → A1 q → A0 q) (hf : ∀ q, free q → A0 q) (hAX : ∀ q, q < H.size → AX q → A0 q)
    (kx : ∀ (E : String) (ce : Cell) (q9 : Addr) (u : SX) (t : State) (H1 : Heap) (locs1 : List Loc), t.heap = H1 → s.vm.Alike t.vm → px u → BX E u t → H.size ≤ H1.size → (∀ q : Nat, q < H.size → ¬ AX q → H1[q]? = H[q]?) → va_S A0 H0 H1 locs1 → H1[q9]? = some ce → ce.vm = .none → s.vm.findClass E = some ce.cls → vx_W p l e R s m args below meth c H1 locs1 (cells + mc) (slots + ms) Q (F0 m pc ls rest) q9)
    (kk : ∀ (r : UInt32) (u : S) (t : State) (H1 : Heap) (locs1 : List Loc), t.heap = H1 → s.vm.Alike t.vm → post r u → B u t → H.size ≤ H1.size → (∀ q : Nat, q < H.size → ¬ A1 q → H1[q]? = H[q]?) → va_S A0 H0 H1 locs1 → W p l e R s m args below meth c H1 locs1 (cells + mc) (slots + ms) Q (F0 m (pc + 3) ls (.float r :: rest))) : W p l e R s m args below meth c H locs cells slots Q (F0 m pc ls st0) := by
  intro T hT X
  rcases hr T hT X with ⟨v, st₀, t, T', L, h0, X', hL, e1, e2, ⟨⟨r, u, hv, hp, hb⟩, hF⟩, st⟩ | ⟨q, st₀, t, T', L, E, ce, h0, X', hL, e1, e2, ⟨u, hp, hb, hF⟩, hce, hcv, hcl, st⟩
  · cases hv
    obtain ⟨k1, k2, k3⟩ := vx_keep h0 e1 hS hA hf hL hF
    obtain ⟨t2, a1, b1⟩ := kk r u t T'.heap (locs ++ L) e1.symm (by rw [← e2]; exact X'.warmed.alike) hp hb k1 k2 k3 T' rfl X'
    exact ⟨t2, st t2 a1, b1⟩
  · obtain ⟨k1, k2, k3⟩ := vx_keep h0 e1 hS hAX hf hL hF
    obtain ⟨t2, a1, b1⟩ := kx E ce q u t T'.heap (locs ++ L) e1.symm (by rw [← e2]; exact X'.warmed.alike) hp hb k1 k2 k3 (by rw [e1]; exact hce) hcv hcl T' rfl X'
    exact ⟨t2, st.trans a1, b1⟩
theorem vx_calld {S SX : Type} {post : UInt64 → S → Prop} {px : SX → Prop} {B : S → State → Prop} {BX : String → SX → State → Prop} {AX : Nat → Prop} (hr : vx_Run p l e R s m args below meth c H locs cells slots mc ms (F0 m pc ls st0) rest (va_Qd post B A1 a) (vx_X px BX AX) free) (hS : va_S A0 H0 H locs) (hA : ∀ q, q < H.size → A1 q → A0 q) (hf : ∀ q, free q → A0 q) (hAX : ∀ q, q < H.size → AX q → A0 q)
    (kx : ∀ (E : String) (ce : Cell) (q9 : Addr) (u : SX) (t : State) (H1 : Heap) (locs1 : List Loc), t.heap = H1 → s.vm.Alike t.vm → px u → BX E u t → H.size ≤ H1.size → (∀ q : Nat, q < H.size → ¬ AX q → H1[q]? = H[q]?) → va_S A0 H0 H1 locs1 → H1[q9]? = some ce → ce.vm = .none → s.vm.findClass E = some ce.cls → vx_W p l e R s m args below meth c H1 locs1 (cells + mc) (slots + ms) Q (F0 m pc ls rest) q9)
    (kk : ∀ (r : UInt64) (u : S) (t : State) (H1 : Heap) (locs1 : List Loc), t.heap = H1 → s.vm.Alike t.vm → post r u → B u t → H.size ≤ H1.size → (∀ q : Nat, q < H.size → ¬ A1 q → H1[q]? = H[q]?) → va_S A0 H0 H1 locs1 → W p l e R s m args below meth c H1 locs1 (cells + mc) (slots + ms) Q (F0 m (pc + 3) ls (.double r :: rest))) : W p l e R s m args below meth c H locs cells slots Q (F0 m pc ls st0) := by
  intro T hT X
  rcases hr T hT X with ⟨v, st₀, t, T', L, h0, X', hL, e1, e2, ⟨⟨r, u, hv, hp, hb⟩, hF⟩, st⟩ | ⟨q, st₀, t, T', L, E, ce, h0, X', hL, e1, e2, ⟨u, hp, hb, hF⟩, hce, hcv, hcl, st⟩
  · cases hv
    obtain ⟨k1, k2, k3⟩ := vx_keep h0 e1 hS hA hf hL hF
    obtain ⟨t2, a1, b1⟩ := kk r u t T'.heap (locs ++ L) e1.symm (by rw [← e2]; exact X'.warmed.alike) hp hb k1 k2 k3 T' rfl X'
    exact ⟨t2, st t2 a1, b1⟩
  · obtain ⟨k1, k2, k3⟩ := vx_keep h0 e1 hS hAX hf hL hF
    obtain ⟨t2, a1, b1⟩ := kx E ce q u t T'.heap (locs ++ L) e1.symm (by rw [← e2]; exact X'.warmed.alike) hp hb k1 k2 k3 (by rw [e1]; exact hce) hcv hcl T' rfl X'
    exact ⟨t2, st.trans a1, b1⟩
theorem vx_callv {S SX : Type} {post : S → Prop} {px : SX → Prop} {B : S → State → Prop} {BX : String → SX → State → Prop} {AX : Nat → Prop} (hr : vx_Run p l e R s m args below meth c H locs cells slots mc ms (F0 m pc ls st0) rest (va_Qv post B A1 a) (vx_X px BX AX) free) (hS : va_S A0 H0 H locs) (hA : ∀ q, q < H.size → A1 q → A0 q) (hf : ∀ q, free q → A0 q) (hAX : ∀ q, q < H.size → AX q → A0 q)
    (kx : ∀ (E : String) (ce : Cell) (q9 : Addr) (u : SX) (t : State) (H1 : Heap) (locs1 : List Loc), t.heap = H1 → s.vm.Alike t.vm → px u → BX E u t → H.size ≤ H1.size → (∀ q : Nat, q < H.size → ¬ AX q → H1[q]? = H[q]?) → va_S A0 H0 H1 locs1 → H1[q9]? = some ce → ce.vm = .none → s.vm.findClass E = some ce.cls → vx_W p l e R s m args below meth c H1 locs1 (cells + mc) (slots + ms) Q (F0 m pc ls rest) q9)
    (kk : ∀ (u : S) (t : State) (H1 : Heap) (locs1 : List Loc), t.heap = H1 → s.vm.Alike t.vm → post u → B u t → H.size ≤ H1.size → (∀ q : Nat, q < H.size → ¬ A1 q → H1[q]? = H[q]?) → va_S A0 H0 H1 locs1 → W p l e R s m args below meth c H1 locs1 (cells + mc) (slots + ms) Q (F0 m (pc + 3) ls (rest))) : W p l e R s m args below meth c H locs cells slots Q (F0 m pc ls st0) := by
  intro T hT X
  rcases hr T hT X with ⟨v, st₀, t, T', L, h0, X', hL, e1, e2, ⟨⟨u, hv, hp, hb⟩, hF⟩, st⟩ | ⟨q, st₀, t, T', L, E, ce, h0, X', hL, e1, e2, ⟨u, hp, hb, hF⟩, hce, hcv, hcl, st⟩
  · cases hv
    obtain ⟨k1, k2, k3⟩ := vx_keep h0 e1 hS hA hf hL hF
    obtain ⟨t2, a1, b1⟩ := kk u t T'.heap (locs ++ L) e1.symm (by rw [← e2]; exact X'.warmed.alike) hp hb k1 k2 k3 T' rfl X'
    exact ⟨t2, st t2 a1, b1⟩
  · obtain ⟨k1, k2, k3⟩ := vx_keep h0 e1 hS hAX hf hL hF
    obtain ⟨t2, a1, b1⟩ := kx E ce q u t T'.heap (locs ++ L) e1.symm (by rw [← e2]; exact X'.warmed.alike) hp hb k1 k2 k3 (by rw [e1]; exact hce) hcv hcl T' rfl X'
    exact ⟨t2, st.trans a1, b1⟩
/-- caught by the row x of this method's table; the rows ahead don't take it -/
theorem vx_catch {own name : String} {E : String} {ce : Cell} {q : Addr} (hown : s.vm.findClass own = some m.cls) (pre : List ExceptionTableEntry) (x : ExceptionTableEntry) (suf : List ExceptionTableEntry) (hsplit : c.exceptionTable.toList = pre ++ x :: suf)
    (hpass : ∀ z ∈ pre, covers z pc = false ∨ (z.catchType ≠ 0 ∧ ∃ nm : String, (Cond.classLink own z.catchType nm).before args s = true ∧ va_Nc E nm s)) (hx : covers x pc = true) (h0 : x.catchType ≠ 0)
    (hlink : (Cond.classLink own x.catchType name).before args s = true) (hcast : (Cond.castable E name).before args s = true) (hcell : H[q]? = some ce) (hv : ce.vm = .none) (hcl : s.vm.findClass E = some ce.cls)
    (kk : W p l e R s m args below meth c H locs cells slots Q (F0 m x.handlerPc ls [.ref q])) : vx_W p l e R s m args below meth c H locs cells slots Q (F0 m pc ls rest) q := by
  intro T hT X
  have hpl : e.platform.magicAccessors = ({} : Platform).magicAccessors := by rw [X.admits.platform]
  obtain ⟨c3, c4, hc3, hc4, hasg⟩ := Cond.castable_spec hcast
  cases Option.some.inj (hc3.symm.trans hcl)
  obtain ⟨c5, hc5, hcl5⟩ := Cond.classLink_spec hown hlink e.platform hpl
  cases Option.some.inj (hc4.symm.trans hc5)
  obtain ⟨vm', X', st⟩ := X.thenCaughtThrough q (g := F0 m pc ls rest) rfl (Steps.refl _) (by rw [hT]; exact hcell) (by rw [hv]; rfl) (by obtain ⟨k9, h9, -⟩ := Vm.findClass_spec hcl; exact ⟨k9, h9⟩) pre x suf hsplit
    (fun z hz => by
      rcases hpass z hz with h | ⟨hz0, nm, hl1, hn1⟩
      · exact Or.inl h
      · obtain ⟨c6, hc6, hcl6⟩ := Cond.classLink_spec hown hl1 e.platform hpl
        obtain ⟨a8, b8, h1, h2, h3⟩ := hn1
        cases Option.some.inj (h1.symm.trans hcl)
        cases Option.some.inj (h2.symm.trans hc6)
        exact Or.inr ⟨hz0, _, hcl6, h3⟩) hx (Or.inr ⟨h0, c4, hcl5, hasg⟩)
  obtain ⟨t, a1, b1⟩ := kk (T.setVm vm') hT X'
  exact ⟨t, st.trans a1, b1⟩
end Rows
section Ends
variable {p : Program} {l : Launch} {e : Env} {R : Room} {s : State} {m : MethodId} {args : Array Value} {below : List Frame} {meth : Method} {c : Code} {H : Heap} {locs : List Loc} {cells slots : Nat} {Q : State → Prop}
variable {mc ms : Nat} {free : Addr → Prop} {A0 A1 : Nat → Prop} {H0 : Heap} {a : Array Value} {ls : Array Slot} {st0 rest : List Value}
variable {Qc : Array Value → State → Outcome → State → Prop} {XC : String → State → State → Prop}
/-- what a body that may throw owes at its end -/
def vx_MQ (below : List Frame) (Qc : Array Value → State → Outcome → State → Prop) (XC : String → State → State → Prop) (a : Array Value) (s : State) (mc ms : Nat) (free : Addr → Prop) : State → Prop := fun t =>
  ∃ o, t.status = .running ∧ Ended t below o ∧ vx_Q Qc XC mc ms free a s o t
theorem vx_ret {g : JFrame} {mc ms : Nat} (k : W p l e R s m args below meth c H locs cells slots (MQ below Qc args s mc ms free) g) : W p l e R s m args below meth c H locs cells slots (vx_MQ below Qc XC args s mc ms free) g := by
  intro T hT X
  obtain ⟨t, a1, o, b1, b2, b3, b4⟩ := k T hT X
  exact ⟨t, a1, o, b1, b2, Or.inl ⟨b3, b4⟩⟩
/-- not caught here: it goes on to the caller -/
theorem vx_widen {g : JFrame} {q : Addr} {k n : Nat} (h1 : cells ≤ k) (h2 : slots ≤ n) (kk : vx_W p l e R s m args below meth c H locs k n Q g q) : vx_W p l e R s m args below meth c H locs cells slots Q g q := fun T hT X => kk T hT (stand_widen X h1 h2)
theorem vx_out {pc : Nat} {E : String} {ce : Cell} {q : Addr} {mc ms : Nat} (hout : ∀ x ∈ c.exceptionTable.toList, covers x pc = false) (hlocks : meth.locks = false) (hcell : H[q]? = some ce) (hv : ce.vm = .none) (hcl : s.vm.findClass E = some ce.cls)
    (hx : ∀ t : State, t.heap = H → s.vm.Alike t.vm → XC E s t) (hf : ∀ z ∈ locs, free z.base) (hc : cells ≤ mc) (hs : slots ≤ ms) :
    vx_W p l e R s m args below meth c H locs cells slots (vx_MQ below Qc XC args s mc ms free) (F0 m pc ls rest) q := by
  intro T hT X
  obtain ⟨st1, hrun, hend, hW, hsm⟩ := X.leaveThrown q (g := F0 m pc ls rest) rfl rfl rfl hout hlocks
  have hcell9 : (T.setFrames (.throwing q :: below)).heap[q]? = some ce := by
    show T.heap[q]? = some ce
    rw [hT]; exact hcell
  exact ⟨_, st1, .threw q, hrun, hend, Or.inr ⟨q, rfl, E, ce, locs, hx _ hT hW.alike, hcell9, hv, hcl, hW, hsm.mono hc hs, hf⟩⟩
theorem vx_frame {U : State} {k n : Nat} (h : s.sameButNew ({ U with vm := s.vm } : State) locs k n) : s.heap.size ≤ U.heap.size ∧ ∀ q : Nat, q < s.heap.size → (∀ z ∈ locs, z.base ≠ q) → U.heap[q]? = s.heap[q]? := by
  obtain ⟨-, h2, -, -, -, h6⟩ := h
  refine ⟨h2, fun q hq hz => ?_⟩
  obtain ⟨c9, e1, e2, e3, e4⟩ := h6 q _ (Array.getElem?_eq_getElem hq)
  have hs : c9.slots = (s.heap[q]).slots := Array.ext_getElem? fun i => e4 i fun hm => hz _ hm rfl
  have h9 : c9 = s.heap[q] := by
    rw [hs] at e2
    exact e2
  have e5 : U.heap[q]? = some c9 := e1
  rw [e5, h9, Array.getElem?_eq_getElem hq]
/-- the words of a throw but the four that speak of the heap -/
def vx_no (w : Cond) : Bool := decide (w ≠ .isRef (.static Bundle.tN "UNASSIGNED_STACK" Bundle.steD)) && decide (w ≠ .isRef (.static Bundle.tN "SUPPRESSED_SENTINEL" Bundle.listD)) && decide (w ≠ .laysStatic Bundle.tN "UNASSIGNED_STACK" Bundle.steD) && decide (w ≠ .laysStatic Bundle.tN "SUPPRESSED_SENTINEL" Bundle.listD)
def vx_at0 (own : String) (ic : Nat) (X : String) (names : List String) : List Cond := (Bundle.ownAtoms0 own ic X names).filter vx_no
def vx_atS (own : String) (ic : Nat) (X : String) (names : List String) : List Cond := (Bundle.ownAtoms own ic X names).filter vx_no
/-- a word that the tables alone decide, or a good one -/
def vx_ot (w : Cond) : Bool := w.onTables || goodWord w
theorem vx_ot_at {args a' : Array Value} {s U : State} {w : Cond} (hW : s.WarmedH U.vm) (hvm : s.vm = U.vm) (hg : vx_ot w = true) (h : w.before args s = true) : w.before a' U = true := by
  simp only [vx_ot, Bool.or_eq_true] at hg
  rcases hg with hg | hg
  · exact va_tabs hg hvm h
  · exact word_at hW (good_of_word hg) h
/-- a list's words: the good ones out of the method's own list, the others by premises of their own -/
theorem vx_hat {args : Array Value} {s : State} {L B : List Cond} (h1 : ∀ w ∈ L.filter goodWord, w.before args s = true) (h2 : ∀ w ∈ L.filter (fun w => !goodWord w), w ∈ B) (h3 : ∀ w ∈ B, w.before args s = true) : ∀ w ∈ L, w.before args s = true := by
  intro w hw
  by_cases g : goodWord w = true
  · exact h1 w (List.mem_filter.mpr ⟨hw, g⟩)
  · refine h3 w (h2 w (List.mem_filter.mpr ⟨hw, ?_⟩))
    show (!goodWord w) = true
    cases hgw : goodWord w
    · rfl
    · exact absurd hgw g
theorem vx_c {args : Array Value} {s : State} {w : Cond} {B : List Cond} (h : w.before args s = true) (t : ∀ w ∈ B, w.before args s = true) : ∀ w' ∈ w :: B, w'.before args s = true := fun w' h' => (List.mem_cons.mp h').elim (fun e => by rw [e]; exact h) (t w')
theorem vx_n {args : Array Value} {s : State} : ∀ w ∈ ([] : List Cond), w.before args s = true := fun _ h => nomatch h
theorem vx_own {args : Array Value} {s : State} {L : List Cond} (h1 : ∀ w ∈ L.filter vx_no, w.before args s = true)
    (hU : (Cond.isRef (.static Bundle.tN "UNASSIGNED_STACK" Bundle.steD)).before args s = true) (hN : (Cond.isRef (.static Bundle.tN "SUPPRESSED_SENTINEL" Bundle.listD)).before args s = true)
    (lU : (Cond.laysStatic Bundle.tN "UNASSIGNED_STACK" Bundle.steD).before args s = true) (lN : (Cond.laysStatic Bundle.tN "SUPPRESSED_SENTINEL" Bundle.listD).before args s = true) : ∀ w ∈ L, w.before args s = true := by
  intro w hw
  by_cases e1 : w = .isRef (.static Bundle.tN "UNASSIGNED_STACK" Bundle.steD)
  · rw [e1]; exact hU
  · by_cases e2 : w = .isRef (.static Bundle.tN "SUPPRESSED_SENTINEL" Bundle.listD)
    · rw [e2]; exact hN
    · by_cases e3 : w = .laysStatic Bundle.tN "UNASSIGNED_STACK" Bundle.steD
      · rw [e3]; exact lU
      · by_cases e4 : w = .laysStatic Bundle.tN "SUPPRESSED_SENTINEL" Bundle.listD
        · rw [e4]; exact lN
        · exact h1 w (List.mem_filter.mpr ⟨hw, by unfold vx_no; rw [decide_eq_true e1, decide_eq_true e2, decide_eq_true e3, decide_eq_true e4]; rfl⟩)
/-- where a static field lies, its class's statics cell in H -/
def vx_L (C n d : String) (A : Nat → Prop) (U : State) (H : Heap) : Prop := ∃ (c : ClassId) (k : Class) (i : Nat) (f : Field) (a : Nat) (cell : Cell), U.vm.findClass C = some c ∧ U.fieldFound? C n d = some (c, k, i, f) ∧ f.isStatic = true ∧ k.statics = some a ∧ H[a]? = some cell ∧ cell.vm.isStatics = true ∧ cell.cls = c ∧ f.slot < cell.slots.size ∧ k.staticTypes[f.slot]? = some f.type ∧ ¬ A a
theorem vx_L.moved {C n d : String} {A : Nat → Prop} {u U : State} {H : Heap} (hvm : u.vm.Alike U.vm) (h : vx_L C n d A u H) : vx_L C n d A U H := by
  obtain ⟨c, k, i, f, a, cell, h1, h2, h3, h4, h5, h6, h7, h8, h9, h10⟩ := h
  obtain ⟨k', hi', he⟩ := State.fieldFound?_setVm hvm h2
  exact ⟨c, k', i, f, a, cell, by rw [hvm.findClass]; exact h1, hi', h3, by rw [he]; exact h4, h5, h6, h7, h8, by rw [he]; exact h9, h10⟩
theorem vx_L.kept {C n d : String} {A : Nat → Prop} {U : State} {H H1 : Heap} (h : vx_L C n d A U H) (hq : ∀ a : Nat, a < H.size → ¬ A a → H1[a]? = H[a]?) : vx_L C n d A U H1 := by
  obtain ⟨c, k, i, f, a, cell, h1, h2, h3, h4, h5, h6, h7, h8, h9, h10⟩ := h
  exact ⟨c, k, i, f, a, cell, h1, h2, h3, h4, by rw [hq a (Array.getElem?_eq_some_iff.mp h5).1 h10]; exact h5, h6, h7, h8, h9, h10⟩
theorem vx_L.narrow {C n d : String} {A B : Nat → Prop} {U : State} {H : Heap} (h : vx_L C n d A U H) (hAB : ∀ q, B q → A q) : vx_L C n d B U H := by
  obtain ⟨c, k, i, f, a, cell, h1, h2, h3, h4, h5, h6, h7, h8, h9, h10⟩ := h
  exact ⟨c, k, i, f, a, cell, h1, h2, h3, h4, h5, h6, h7, h8, h9, fun z => h10 (hAB _ z)⟩
theorem vx_L.word {C n d : String} {A : Nat → Prop} {s : State} {args : Array Value} (h : vx_L C n d A s s.heap) : (Cond.laysStatic C n d).before args s = true := by
  obtain ⟨c, k, i, f, a, cell, h1, h2, h3, h4, h5, h6, h7, h8, h9, -⟩ := h
  show (Cond.laysStatic C n d).holds args s none s [] = true
  exact Cond.laysStatic_of h1 h2 h3 h4 h5 h6 h7 h8 h9
/-- .. and what it holds: null or some reference -/
def vx_Zq (C n d : String) (A : Nat → Prop) (U : State) (H : Heap) : Prop := va_Zq C n d A U H ∧ vx_L C n d A U H
theorem vx_Zq.moved {C n d : String} {A : Nat → Prop} {u U : State} {H : Heap} (hvm : u.vm.Alike U.vm) (h : vx_Zq C n d A u H) : vx_Zq C n d A U H := ⟨va_Zq.moved hvm h.1, vx_L.moved hvm h.2⟩
theorem vx_Zq.kept {C n d : String} {A : Nat → Prop} {U : State} {H H1 : Heap} (h : vx_Zq C n d A U H) (hq : ∀ a : Nat, a < H.size → ¬ A a → H1[a]? = H[a]?) : vx_Zq C n d A U H1 := ⟨va_Zq.kept h.1 hq, vx_L.kept h.2 hq⟩
theorem vx_Zq.narrow {C n d : String} {A B : Nat → Prop} {U : State} {H : Heap} (h : vx_Zq C n d A U H) (hAB : ∀ q, B q → A q) : vx_Zq C n d B U H := ⟨va_Zq.narrow h.1 hAB, vx_L.narrow h.2 hAB⟩
theorem vx_Zqof {args : Array Value} {s : State} {C n d : String} {A : Nat → Prop} (hl : (Cond.laysStatic C n d).before args s = true) (hini : (Cond.initialized C).before args s = true) (h : (Cond.isRef (.static C n d)).before args s = true) (hA : ∀ a : Nat, a < s.heap.size → ¬ A a) : vx_Zq C n d A s s.heap := by
  refine ⟨va_Zqof hl hini h hA, ?_⟩
  obtain ⟨c, k, i, f, a, cell, h1, h2, h3, h4, h5, h6, h7, h8, h9⟩ := Cond.laysStatic_spec hl
  exact ⟨c, k, i, f, a, cell, h1, h2, h3, h4, h5, h6, h7, h8, h9, hA a (Array.getElem?_eq_some_iff.mp h5).1⟩
theorem vx_isRef {C n d : String} {v : Value} {A : Nat → Prop} {s : State} {args : Array Value} (h : va_Z C n d v A s s.heap) (hv : v.isRef = true) : (Cond.isRef (.static C n d)).before args s = true := by
  obtain ⟨cf, kf, fi, f, a, cell, h1, h2, h3, h4, h5, h6, h7, -⟩ := h
  have he : (Term.static C n d).eval args s none [] s = some v := by
    simp [Term.eval, State.fieldNamed?, h1, h2, h4, h5, h6, h7]
  simp only [Cond.before, Cond.holds, Cond.value, he]
  cases v <;> simp_all [Value.isRef]
theorem vx_isRefq {C n d : String} {A : Nat → Prop} {s : State} {args : Array Value} (h : va_Zq C n d A s s.heap) : (Cond.isRef (.static C n d)).before args s = true := by
  rcases h with h | ⟨t, h⟩
  · exact vx_isRef h rfl
  · exact vx_isRef h rfl
/-- the same frame, seen from here: as if the method were called anew in this heap -/
theorem vx_rebase {T : State} (X : Stand p l e R s m args below meth c T locs cells slots) {R' : Room} (hf : R'.frames ≤ R.frames) (hl : R'.locals ≤ R.locals) (hc : cells + R'.cells ≤ R.cells) (hs : slots + R'.slots ≤ R.slots) :
    Stand p l e R' ((T.setVm s.vm).setFrames (.invoking m args :: below)) m args below meth c T [] 0 0 := by
  have htop : (T.setVm s.vm).topJava?.isSome := X.here.top
  have hF : ((T.setVm s.vm).setFrames (.invoking m args :: below)).frames = .invoking m args :: below := State.frames_setFrames _ (State.cur_lt_of_top htop)
  obtain ⟨g₀, hg0⟩ := Option.isSome_iff_exists.mp htop
  obtain ⟨r, hr⟩ := State.topJava?_eq_some.mp hg0
  have hl9 : e.platform.stackLimits (T.setVm s.vm).me = e.platform.stackLimits s.me := X.limits
  have hb9 : (T.setVm s.vm).me.stackBytes = s.me.stackBytes := X.bytes
  refine ⟨X.admits, X.cas, X.clock, hF, ?_, X.hears, X.method, X.code, X.here, X.tail, X.warmed, ?_, ?_, ?_⟩
  · have h := X.room
    have hU : ((T.setVm s.vm).setFrames (.invoking m args :: below)).localsInUse = s.localsInUse := by
      rw [State.localsInUse_invoking hF (meth := meth) (c := c) X.method X.code, State.localsInUse_invoking X.frames X.method X.code]
    simp only [State.hasRoom, Bool.and_eq_true, decide_eq_true_eq] at h ⊢
    obtain ⟨⟨⟨⟨h1, h2, h3, h4, h5, h6⟩, h7⟩, h8⟩, h9⟩ := h
    rw [X.frames, List.length_cons] at h2 h3
    have q1 := X.heapSize
    have q2 := X.used
    simp only [hF, hU, List.length_cons, State.stackLimits_setFrames, State.stackBytes_setFrames, hl9, hb9]
    refine ⟨⟨⟨⟨by omega, by omega, by omega, by omega, by omega, h6⟩, ?_⟩, ?_⟩, X.book⟩
    · show T.heap.size + R'.cells ≤ e.platform.maxCells
      omega
    · show T.slotsUsed + R'.slots ≤ e.platform.maxSlots
      omega
  · rw [State.stackLimits_setFrames]; rfl
  · rw [State.stackBytes_setFrames]; rfl
  · refine ⟨?_, Nat.le_refl _, Nat.le_refl _, ?_, ?_, fun a c9 h9 => ⟨c9, h9, rfl, rfl, fun _ _ => rfl⟩⟩
    · obtain ⟨t, ht, -⟩ := State.frames_cons hr
      show T.setVm s.vm = { ((T.setVm s.vm).setFrames (.invoking m args :: below)).setFrames (T.setVm s.vm).frames with heap := T.heap, slotsUsed := T.slotsUsed }
      rw [State.setFrames_setFrames, State.setFrames_self ht]
      rfl
    · show T.slotsUsed = T.slotsUsed + ((T.heap.toList.drop T.heap.size).map (·.slots.size)).sum
      rw [List.drop_eq_nil_of_le (Nat.le_of_eq Array.length_toList)]
      rfl
    · show ((T.heap.toList.drop T.heap.size).map (·.slots.size)).sum ≤ 0
      rw [List.drop_eq_nil_of_le (Nat.le_of_eq Array.length_toList)]
      exact Nat.le_refl _
/-- 'throw new E()': new; dup; invokespecial; athrow -/
theorem vx_throw0 {cc : ByteArray} {pc : Nat} (hexec : p.tables.exec = Jvm.exec) (hb : c.code = cc) (hl : l.stackTraces = false) {own cls : String} {names : List String} {ik ic mc ms : Nat} {A : Nat → Prop}
    (hown : s.vm.findClass own = some m.cls) (hcls : Bundle.fit cls = true) (hnames : ∀ n ∈ names, Bundle.fit n = true)
    (hk : (Cond.classLink own ik cls).before args s = true) (hini : (Cond.initialized cls).before args s = true) (hat : ∀ w ∈ vx_at0 own ic cls names, w.before args s = true)
    (hgood : ∀ w ∈ Cond.classLink own ik cls :: Cond.initialized cls :: vx_at0 own ic cls names, vx_ot w = true)
    (hU : vx_Zq Bundle.tN "UNASSIGNED_STACK" Bundle.steD A s s.heap) (hN : vx_Zq Bundle.tN "SUPPRESSED_SENTINEL" Bundle.listD A s s.heap) (hS : va_S A s.heap H locs) (hsize : ls.size = c.maxLocals)
    (d0 : decode cc pc = .ok (.new ik, 3)) (d3 : decode cc (pc + 3) = .ok (.dup, 1)) (d4 : decode cc (pc + 4) = .ok (.invokespecial ic, 3)) (d7 : decode cc (pc + 7) = .ok (.athrow, 1))
    (hout : ∀ x ∈ c.exceptionTable.toList, covers x (pc + 7) = false)
    (hRframes : names.length + 3 < R.frames) (hRlocals : (rest.map fun v => v.category).sum + (13 * (names.length + 1) + 42) ≤ R.locals) (hRcells : cells + 1 ≤ R.cells) (hRslots : slots + 6 ≤ R.slots) (hlocks : meth.locks = false)
    (hx : ∀ t : State, s.vm.Alike t.vm → H.size ≤ t.heap.size → (∀ q : Nat, q < H.size → t.heap[q]? = H[q]?) → XC cls s t)
    (hf : ∀ z ∈ locs, free z.base) (hc : cells + 1 ≤ mc) (hs : slots + 6 ≤ ms) :
    W p l e R s m args below meth c H locs cells slots (vx_MQ below Qc XC args s mc ms free) (F0 m pc ls rest) := by
  intro T hT X
  have htr : e.platform.stackTraces = false := (show e.platform.stackTraces = l.stackTraces by rw [X.admits.platform]).trans hl
  have Y := vx_rebase X (R' := { frames := R.frames, locals := R.locals, cells := 1, slots := 6 }) (Nat.le_refl _) (Nat.le_refl _) hRcells hRslots
  obtain ⟨s', hA⟩ : ∃ z, z = (T.setVm s.vm).setFrames (.invoking m args :: below) := ⟨_, rfl⟩
  rw [← hA] at Y
  have hvm : s'.vm = s.vm := by rw [hA]; rfl
  have hhp : s'.heap = H := by rw [hA]; exact hT
  have hW0 : s.WarmedH s'.vm := by rw [hvm]; exact State.WarmedH.refl s
  have hat' : ∀ w ∈ vx_at0 own ic cls names, w.before args s' = true := fun w hw => vx_ot_at hW0 hvm.symm (hgood w (List.mem_cons_of_mem _ (List.mem_cons_of_mem _ hw))) (hat w hw)
  have hk' : (Cond.classLink own ik cls).before args s' = true := vx_ot_at hW0 hvm.symm (hgood _ List.mem_cons_self) hk
  have hini' : (Cond.initialized cls).before args s' = true := vx_ot_at hW0 hvm.symm (hgood _ (List.mem_cons_of_mem _ List.mem_cons_self)) hini
  have hU' : vx_Zq Bundle.tN "UNASSIGNED_STACK" Bundle.steD A s' s'.heap := by rw [hhp]; exact vx_Zq.moved hW0.alike (hU.kept hS.2.1)
  have hN' : vx_Zq Bundle.tN "SUPPRESSED_SENTINEL" Bundle.listD A s' s'.heap := by rw [hhp]; exact vx_Zq.moved hW0.alike (hN.kept hS.2.1)
  have h : ∀ w ∈ Bundle.ownAtoms0 own ic cls names, w.before args s' = true := vx_own hat' (vx_isRefq hU'.1) (vx_isRefq hN'.1) hU'.2.word hN'.2.word
  have hown' : s'.vm.findClass own = some m.cls := by rw [hvm]; exact hown
  have hins : (Cond.instantiable cls 6).before args s' = true := h _ (by simp [Bundle.ownAtoms0])
  obtain ⟨vm₁, cX, kX, hfX, hkX, -, -, X₁, st1⟩ := Y.newCold hexec (own := own) (C := cls) (index := ik) (n := 6) hown' hk' hins hini'
    (g := F0 m pc ls rest) rfl (by rw [hb]; exact d0) (Nat.le_refl _) (Nat.le_refl _)
  generalize hT1 : (T.setVm vm₁).pushCell { cls := cX, slots := kX.instanceTypes.map defaultValue, vm := .none } = T1 at X₁ st1
  have hcat : (Value.ref T.heap.size).category = 1 := rfl
  have hcellA : T1.heap[T.heap.size]? = some (freshCell cX kX) := by rw [← hT1]; exact State.heap_pushCell_size _ _
  have d3' : decode c.code (pc + 3) = .ok (.dup, 1) := by rw [hb]; exact d3
  obtain ⟨U, hsteps, hrun, hend, hW, hsame, ce, hce, hO⟩ := X₁.ctorThrow0 hexec htr (own := own) (cls := cls) (names := names) (ic := ic) hown' hcls hnames h (fun x hx => nomatch hx) hfX hkX hcellA (by rw [hhp, hT]; exact Nat.le_refl _)
    (g := { method := m, pc := pc + 4, locals := ls, stack := .ref T.heap.size :: .ref T.heap.size :: rest, locked := none }) rfl hsize rfl rfl (rest := rest) rfl
    (by rw [hb]; exact d4) (by rw [hb]; exact d7) hout hRframes (by simp only [List.map_cons, List.sum_cons, hcat]; omega) hlocks
  obtain ⟨f1, f2⟩ := vx_frame hsame
  rw [hhp] at f1 f2
  have hWs : s.WarmedH U.vm := State.WarmedH.trans hW0 hW
  have hcl : s.vm.findClass cls = some ce.cls := by
    have h9 := hO.cls
    rw [hvm] at h9
    exact h9
  have hall : s.sameButNew ({ U with vm := s.vm } : State) locs mc ms := by
    subst hA
    obtain ⟨e1, e2⟩ := hsame
    rw [State.setFrames_setFrames] at e1
    have h2 : (T.setVm s.vm).sameButNew ({ U with vm := s.vm } : State) [] (0 + 1) (0 + 6) := ⟨e1, e2⟩
    have h3 := X.same.trans h2
    rw [List.append_nil] at h3
    exact h3.mono hc hs
  refine ⟨U, ?_, .threw T.heap.size, hrun, hend, Or.inr ⟨T.heap.size, rfl, cls, ce, locs, hx U hWs.alike f1 (fun q hq => f2 q hq (fun z hz => nomatch hz)), hce, hO.vm, hcl, hWs, hall, hf⟩⟩
  refine st1 _ ?_
  show Steps p.tables e below (T1.setTop { method := m, pc := pc + 3, locals := ls, stack := .ref T.heap.size :: rest, locked := none }) _
  jvm_step X₁.here [X₁.here.top, hexec, d3', Value.category]
  exact hsteps
/-- 'throw new E("text")': new; dup; ldc; invokespecial; athrow -/
theorem vx_throwS {cc : ByteArray} {pc : Nat} (hexec : p.tables.exec = Jvm.exec) (hb : c.code = cc) (hl : l.stackTraces = false) {own cls text : String} {names : List String} {ik is ic mc ms sa : Nat} {A : Nat → Prop}
    (hown : s.vm.findClass own = some m.cls) (hcls : Bundle.fit cls = true) (hnames : ∀ n ∈ names, Bundle.fit n = true)
    (hk : (Cond.classLink own ik cls).before args s = true) (hini : (Cond.initialized cls).before args s = true) (hstr : vk_R own is text sa s) (hat : ∀ w ∈ vx_atS own ic cls names, w.before args s = true)
    (hgood : ∀ w ∈ Cond.classLink own ik cls :: Cond.initialized cls :: vx_atS own ic cls names, vx_ot w = true)
    (hU : vx_Zq Bundle.tN "UNASSIGNED_STACK" Bundle.steD A s s.heap) (hN : vx_Zq Bundle.tN "SUPPRESSED_SENTINEL" Bundle.listD A s s.heap) (hS : va_S A s.heap H locs) (hsize : ls.size = c.maxLocals)
    (d0 : decode cc pc = .ok (.new ik, 3)) (d3 : decode cc (pc + 3) = .ok (.dup, 1)) (d4 : decode cc (pc + 4) = .ok (.ldc is, 2)) (d6 : decode cc (pc + 6) = .ok (.invokespecial ic, 3)) (d9 : decode cc (pc + 9) = .ok (.athrow, 1))
    (hout : ∀ x ∈ c.exceptionTable.toList, covers x (pc + 9) = false)
    (hRframes : names.length + 3 < R.frames) (hRlocals : (rest.map fun v => v.category).sum + (13 * (names.length + 1) + 43) ≤ R.locals) (hRcells : cells + 1 ≤ R.cells) (hRslots : slots + 6 ≤ R.slots) (hlocks : meth.locks = false)
    (hx : ∀ t : State, s.vm.Alike t.vm → H.size ≤ t.heap.size → (∀ q : Nat, q < H.size → t.heap[q]? = H[q]?) → XC cls s t)
    (hf : ∀ z ∈ locs, free z.base) (hc : cells + 1 ≤ mc) (hs : slots + 6 ≤ ms) :
    W p l e R s m args below meth c H locs cells slots (vx_MQ below Qc XC args s mc ms free) (F0 m pc ls rest) := by
  intro T hT X
  have htr : e.platform.stackTraces = false := (show e.platform.stackTraces = l.stackTraces by rw [X.admits.platform]).trans hl
  have Y := vx_rebase X (R' := { frames := R.frames, locals := R.locals, cells := 1, slots := 6 }) (Nat.le_refl _) (Nat.le_refl _) hRcells hRslots
  obtain ⟨s', hA⟩ : ∃ z, z = (T.setVm s.vm).setFrames (.invoking m args :: below) := ⟨_, rfl⟩
  rw [← hA] at Y
  have hvm : s'.vm = s.vm := by rw [hA]; rfl
  have hhp : s'.heap = H := by rw [hA]; exact hT
  have hW0 : s.WarmedH s'.vm := by rw [hvm]; exact State.WarmedH.refl s
  have hat' : ∀ w ∈ vx_atS own ic cls names, w.before args s' = true := fun w hw => vx_ot_at hW0 hvm.symm (hgood w (List.mem_cons_of_mem _ (List.mem_cons_of_mem _ hw))) (hat w hw)
  have hk' : (Cond.classLink own ik cls).before args s' = true := vx_ot_at hW0 hvm.symm (hgood _ List.mem_cons_self) hk
  have hini' : (Cond.initialized cls).before args s' = true := vx_ot_at hW0 hvm.symm (hgood _ (List.mem_cons_of_mem _ List.mem_cons_self)) hini
  have hU' : vx_Zq Bundle.tN "UNASSIGNED_STACK" Bundle.steD A s' s'.heap := by rw [hhp]; exact vx_Zq.moved hW0.alike (hU.kept hS.2.1)
  have hN' : vx_Zq Bundle.tN "SUPPRESSED_SENTINEL" Bundle.listD A s' s'.heap := by rw [hhp]; exact vx_Zq.moved hW0.alike (hN.kept hS.2.1)
  have h : ∀ w ∈ Bundle.ownAtoms own ic cls names, w.before args s' = true := vx_own hat' (vx_isRefq hU'.1) (vx_isRefq hN'.1) hU'.2.word hN'.2.word
  have hown' : s'.vm.findClass own = some m.cls := by rw [hvm]; exact hown
  have hins : (Cond.instantiable cls 6).before args s' = true := h _ (by simp [Bundle.ownAtoms])
  obtain ⟨vm₁, cX, kX, hfX, hkX, -, -, X₁, st1⟩ := Y.newCold hexec (own := own) (C := cls) (index := ik) (n := 6) hown' hk' hins hini'
    (g := F0 m pc ls rest) rfl (by rw [hb]; exact d0) (Nat.le_refl _) (Nat.le_refl _)
  generalize hT1 : (T.setVm vm₁).pushCell { cls := cX, slots := kX.instanceTypes.map defaultValue, vm := .none } = T1 at X₁ st1
  have hcat : (Value.ref T.heap.size).category = 1 := rfl
  have hcellA : T1.heap[T.heap.size]? = some (freshCell cX kX) := by rw [← hT1]; exact State.heap_pushCell_size _ _
  have d3' : decode c.code (pc + 3) = .ok (.dup, 1) := by rw [hb]; exact d3
  have d4' : decode c.code (pc + 4) = .ok (.ldc is, 2) := by rw [hb]; exact d4
  have hstr' : vk_R own is text sa s' := vk_R.warm hW0 hstr
  obtain ⟨U, hsteps, hrun, hend, hW, hsame, ce, hce, hO⟩ := X₁.ctorThrowS hexec htr (own := own) (cls := cls) (names := names) (ic := ic) hown' hcls hnames h (fun x hx => nomatch hx) hfX hkX hcellA (by rw [hhp, hT]; exact Nat.le_refl _) (msg := .ref sa) rfl
    (g := { method := m, pc := pc + 6, locals := ls, stack := .ref sa :: .ref T.heap.size :: .ref T.heap.size :: rest, locked := none }) rfl hsize rfl rfl (rest := rest) rfl
    (by rw [hb]; exact d6) (by rw [hb]; exact d9) hout hRframes (by simp only [List.map_cons, List.sum_cons, hcat]; omega) hlocks
  obtain ⟨f1, f2⟩ := vx_frame hsame
  rw [hhp] at f1 f2
  have hWs : s.WarmedH U.vm := State.WarmedH.trans hW0 hW
  have hcl : s.vm.findClass cls = some ce.cls := by
    have h9 := hO.cls
    rw [hvm] at h9
    exact h9
  have hall : s.sameButNew ({ U with vm := s.vm } : State) locs mc ms := by
    subst hA
    obtain ⟨e1, e2⟩ := hsame
    rw [State.setFrames_setFrames] at e1
    have h2 : (T.setVm s.vm).sameButNew ({ U with vm := s.vm } : State) [] (0 + 1) (0 + 6) := ⟨e1, e2⟩
    have h3 := X.same.trans h2
    rw [List.append_nil] at h3
    exact h3.mono hc hs
  refine ⟨U, ?_, .threw T.heap.size, hrun, hend, Or.inr ⟨T.heap.size, rfl, cls, ce, locs, hx U hWs.alike f1 (fun q hq => f2 q hq (fun z hz => nomatch hz)), hce, hO.vm, hcl, hWs, hall, hf⟩⟩
  refine st1 _ ?_
  show Steps p.tables e below (T1.setTop { method := m, pc := pc + 3, locals := ls, stack := .ref T.heap.size :: rest, locked := none }) _
  jvm_step X₁.here [X₁.here.top, hexec, d3', Value.category]
  exact X₁.ldcString hexec (own := own) (text := text) (index := is) (a := sa) hown' hstr'.1 hstr'.2
    (g := { method := m, pc := pc + 4, locals := ls, stack := .ref T.heap.size :: .ref T.heap.size :: rest, locked := none }) rfl d4' _ hsteps
/-- 'throw new E("text")', the text by a wide index -/
theorem vx_throwSW {cc : ByteArray} {pc : Nat} (hexec : p.tables.exec = Jvm.exec) (hb : c.code = cc) (hl : l.stackTraces = false) {own cls text : String} {names : List String} {ik is ic mc ms sa : Nat} {A : Nat → Prop}
    (hown : s.vm.findClass own = some m.cls) (hcls : Bundle.fit cls = true) (hnames : ∀ n ∈ names, Bundle.fit n = true)
    (hk : (Cond.classLink own ik cls).before args s = true) (hini : (Cond.initialized cls).before args s = true) (hstr : vk_R own is text sa s) (hat : ∀ w ∈ vx_atS own ic cls names, w.before args s = true)
    (hgood : ∀ w ∈ Cond.classLink own ik cls :: Cond.initialized cls :: vx_atS own ic cls names, vx_ot w = true)
    (hU : vx_Zq Bundle.tN "UNASSIGNED_STACK" Bundle.steD A s s.heap) (hN : vx_Zq Bundle.tN "SUPPRESSED_SENTINEL" Bundle.listD A s s.heap) (hS : va_S A s.heap H locs) (hsize : ls.size = c.maxLocals)
    (d0 : decode cc pc = .ok (.new ik, 3)) (d3 : decode cc (pc + 3) = .ok (.dup, 1)) (d4 : decode cc (pc + 4) = .ok (.ldc_w is, 3)) (d7 : decode cc (pc + 7) = .ok (.invokespecial ic, 3)) (d10 : decode cc (pc + 10) = .ok (.athrow, 1))
    (hout : ∀ x ∈ c.exceptionTable.toList, covers x (pc + 10) = false)
    (hRframes : names.length + 3 < R.frames) (hRlocals : (rest.map fun v => v.category).sum + (13 * (names.length + 1) + 43) ≤ R.locals) (hRcells : cells + 1 ≤ R.cells) (hRslots : slots + 6 ≤ R.slots) (hlocks : meth.locks = false)
    (hx : ∀ t : State, s.vm.Alike t.vm → H.size ≤ t.heap.size → (∀ q : Nat, q < H.size → t.heap[q]? = H[q]?) → XC cls s t)
    (hf : ∀ z ∈ locs, free z.base) (hc : cells + 1 ≤ mc) (hs : slots + 6 ≤ ms) :
    W p l e R s m args below meth c H locs cells slots (vx_MQ below Qc XC args s mc ms free) (F0 m pc ls rest) := by
  intro T hT X
  have htr : e.platform.stackTraces = false := (show e.platform.stackTraces = l.stackTraces by rw [X.admits.platform]).trans hl
  have Y := vx_rebase X (R' := { frames := R.frames, locals := R.locals, cells := 1, slots := 6 }) (Nat.le_refl _) (Nat.le_refl _) hRcells hRslots
  obtain ⟨s', hA⟩ : ∃ z, z = (T.setVm s.vm).setFrames (.invoking m args :: below) := ⟨_, rfl⟩
  rw [← hA] at Y
  have hvm : s'.vm = s.vm := by rw [hA]; rfl
  have hhp : s'.heap = H := by rw [hA]; exact hT
  have hW0 : s.WarmedH s'.vm := by rw [hvm]; exact State.WarmedH.refl s
  have hat' : ∀ w ∈ vx_atS own ic cls names, w.before args s' = true := fun w hw => vx_ot_at hW0 hvm.symm (hgood w (List.mem_cons_of_mem _ (List.mem_cons_of_mem _ hw))) (hat w hw)
  have hk' : (Cond.classLink own ik cls).before args s' = true := vx_ot_at hW0 hvm.symm (hgood _ List.mem_cons_self) hk
  have hini' : (Cond.initialized cls).before args s' = true := vx_ot_at hW0 hvm.symm (hgood _ (List.mem_cons_of_mem _ List.mem_cons_self)) hini
  have hU' : vx_Zq Bundle.tN "UNASSIGNED_STACK" Bundle.steD A s' s'.heap := by rw [hhp]; exact vx_Zq.moved hW0.alike (hU.kept hS.2.1)
  have hN' : vx_Zq Bundle.tN "SUPPRESSED_SENTINEL" Bundle.listD A s' s'.heap := by rw [hhp]; exact vx_Zq.moved hW0.alike (hN.kept hS.2.1)
  have h : ∀ w ∈ Bundle.ownAtoms own ic cls names, w.before args s' = true := vx_own hat' (vx_isRefq hU'.1) (vx_isRefq hN'.1) hU'.2.word hN'.2.word
  have hown' : s'.vm.findClass own = some m.cls := by rw [hvm]; exact hown
  have hins : (Cond.instantiable cls 6).before args s' = true := h _ (by simp [Bundle.ownAtoms])
  obtain ⟨vm₁, cX, kX, hfX, hkX, -, -, X₁, st1⟩ := Y.newCold hexec (own := own) (C := cls) (index := ik) (n := 6) hown' hk' hins hini'
    (g := F0 m pc ls rest) rfl (by rw [hb]; exact d0) (Nat.le_refl _) (Nat.le_refl _)
  generalize hT1 : (T.setVm vm₁).pushCell { cls := cX, slots := kX.instanceTypes.map defaultValue, vm := .none } = T1 at X₁ st1
  have hcat : (Value.ref T.heap.size).category = 1 := rfl
  have hcellA : T1.heap[T.heap.size]? = some (freshCell cX kX) := by rw [← hT1]; exact State.heap_pushCell_size _ _
  have d3' : decode c.code (pc + 3) = .ok (.dup, 1) := by rw [hb]; exact d3
  have d4' : decode c.code (pc + 4) = .ok (.ldc_w is, 3) := by rw [hb]; exact d4
  have hstr' : vk_R own is text sa s' := vk_R.warm hW0 hstr
  obtain ⟨U, hsteps, hrun, hend, hW, hsame, ce, hce, hO⟩ := X₁.ctorThrowS hexec htr (own := own) (cls := cls) (names := names) (ic := ic) hown' hcls hnames h (fun x hx => nomatch hx) hfX hkX hcellA (by rw [hhp, hT]; exact Nat.le_refl _) (msg := .ref sa) rfl
    (g := { method := m, pc := pc + 7, locals := ls, stack := .ref sa :: .ref T.heap.size :: .ref T.heap.size :: rest, locked := none }) rfl hsize rfl rfl (rest := rest) rfl
    (by rw [hb]; exact d7) (by rw [hb]; exact d10) hout hRframes (by simp only [List.map_cons, List.sum_cons, hcat]; omega) hlocks
  obtain ⟨f1, f2⟩ := vx_frame hsame
  rw [hhp] at f1 f2
  have hWs : s.WarmedH U.vm := State.WarmedH.trans hW0 hW
  have hcl : s.vm.findClass cls = some ce.cls := by
    have h9 := hO.cls
    rw [hvm] at h9
    exact h9
  have hall : s.sameButNew ({ U with vm := s.vm } : State) locs mc ms := by
    subst hA
    obtain ⟨e1, e2⟩ := hsame
    rw [State.setFrames_setFrames] at e1
    have h2 : (T.setVm s.vm).sameButNew ({ U with vm := s.vm } : State) [] (0 + 1) (0 + 6) := ⟨e1, e2⟩
    have h3 := X.same.trans h2
    rw [List.append_nil] at h3
    exact h3.mono hc hs
  refine ⟨U, ?_, .threw T.heap.size, hrun, hend, Or.inr ⟨T.heap.size, rfl, cls, ce, locs, hx U hWs.alike f1 (fun q hq => f2 q hq (fun z hz => nomatch hz)), hce, hO.vm, hcl, hWs, hall, hf⟩⟩
  refine st1 _ ?_
  show Steps p.tables e below (T1.setTop { method := m, pc := pc + 3, locals := ls, stack := .ref T.heap.size :: rest, locked := none }) _
  jvm_step X₁.here [X₁.here.top, hexec, d3', Value.category]
  exact X₁.ldcStringW hexec (own := own) (text := text) (index := is) (a := sa) hown' hstr'.1 hstr'.2
    (g := { method := m, pc := pc + 4, locals := ls, stack := .ref T.heap.size :: .ref T.heap.size :: rest, locked := none }) rfl d4' _ hsteps
end Ends
section Bodies
variable {l : Launch}
theorem vx_ofW {y : MethodName} {ws ws' : List Cond} {rm : Room} {Pc : Array Value → State → Prop} {Qc : Array Value → State → Outcome → State → Prop} {XC : String → State → State → Prop} {mc ms : Nat} {free : Addr → Prop} {cc : ByteArray} {maxL : Nat} {ret : Option FieldType}
    (hy : plainName y.cls = true) (hw : ws = Cond.code y cc maxL ret :: ws')
    (body : ∀ p e s m args below meth c s₁, BodyLoose p l y (headSpec ws rm) cc maxL ret e s m args below meth c s₁ → c.maxLocals = maxL → (∀ x ∈ c.exceptionTable.toList, False) → Pc args s →
      W p l e (headSpec ws rm).room s m args below meth c s.heap [] 0 0 (vx_MQ below Qc XC args s mc ms free) (entryFrame m args maxL)) : vx_Met l y ws rm Pc Qc XC mc ms free := by
  refine MetFree.of_bodyS (code := cc) (maxLocals := maxL) (ret := ret) hy ?_ ?_
  · intro args s m h hn
    obtain ⟨meth, c, h1, h2, h3, h4, h5, h6, -, -⟩ := Cond.code_spec hn (atoms_spec (ws := ws) h _ (by rw [hw]; exact List.mem_cons_self))
    exact ⟨meth, c, h1, h2, h3, h4, h5, h6⟩
  · intro p e s m args below meth c s₁ B hml hP _
    have hh0 : s₁.heap = s.heap := by rw [B.state]; rfl
    have ht : ∀ x ∈ c.exceptionTable.toList, False := by
      obtain ⟨meth9, c9, h1, h2, -, -, -, -, h7, -⟩ := Cond.code_spec B.named (atoms_spec (ws := ws) B.pre _ (by rw [hw]; exact List.mem_cons_self))
      cases Option.some.inj (h1.symm.trans B.method)
      cases Option.some.inj (h2.symm.trans (Stand.of_body B).code)
      intro x hx
      rw [Array.isEmpty_iff.mp h7] at hx
      cases hx
    obtain ⟨t, a1, o, b1, b2, b3⟩ := body p e s m args below meth c s₁ B hml ht hP s₁ hh0 (Stand.of_body B)
    exact ⟨t, o, a1, b1, b2, b3⟩
/-- the table of a body with handlers -/
theorem vx_table {p : Program} {x y : MethodName} {S : Spec} {cc bytes : ByteArray} {maxL maxL' : Nat} {ret ret' : Option FieldType} {e : Env} {s s₁ : State} {m : MethodId} {args : Array Value} {below : List Frame} {meth : Method} {c : Code} {hh : List (Nat × Nat × Nat × Nat)}
    (B : BodyLoose p l y S cc maxL ret e s m args below meth c s₁) (h : (Cond.codeWith y bytes maxL' ret' hh).before args s = true) : c.exceptionTable.toList = tableOf hh := by
  obtain ⟨m9, meth9, c9, hn9, h1, h2, -, -, h6, -⟩ := Cond.codeWith_spec h
  cases Option.some.inj (hn9.symm.trans B.named)
  cases Option.some.inj (h1.symm.trans B.method)
  cases Option.some.inj (h2.symm.trans (Stand.of_body B).code)
  rw [← h6, table_eq]
end Bodies
end VXA
/-! ===== END ===== -/
/-! ===== BEGIN a static call of a method with an exception table ===== -/
section VXS
variable {p : Program} {l : Launch} {e : Env} {R : Room} {s : State} {m : MethodId} {args : Array Value} {below : List Frame} {meth : Method} {c : Code} {T : State} {H : Heap} {locs : List Loc} {cells slots : Nat}
abbrev vx_CSW (R : Room) (s : State) (args : Array Value) (own : String) (index : Nat) (y : MethodName) (bytes : ByteArray) (maxL : Nat) (ret : Option FieldType) (hh : List (Nat × Nat × Nat × Nat)) (ws : List Cond) (rm : Room) (mc ms n : Nat) : Prop :=
  (rm.cells = mc ∧ rm.slots = ms ∧ rm.frames + 1 ≤ R.frames ∧ 8 + (maxL + 11) + rm.locals ≤ R.locals ∧ (∀ w ∈ ws, ∀ (a' : Array Value) (U : State), s.WarmedH U.vm → w.before a' U = true) ∧ Cond.codeWith y bytes maxL ret hh ∈ ws) ∧
  (Cond.codeWith y bytes maxL ret hh).before args s = true ∧ (Cond.initialized y.cls).before args s = true ∧ (y.cls ≠ "java/lang/invoke/MethodHandle" ∧ y.cls ≠ "java/lang/invoke/VarHandle") ∧
  (∀ sig, parseMethodDescriptor y.desc = some sig → n = sig.parameters.length) ∧ (Cond.methodLink own index y).before args s = true ∧ (Cond.static y).before args s = true
theorem vx_cwSW {own : String} {index maxL mc ms : Nat} {y : MethodName} {bytes : ByteArray} {ret : Option FieldType} {hh : List (Nat × Nat × Nat × Nat)} {Ts ws ws' : List Cond} {rm : Room} (n : Nat) (ht : ∀ w ∈ Ts, w.before args s = true) (hT : GoodIn Ts (va_wsS own index y ws)) (hw : ws = Cond.codeWith y bytes maxL ret hh :: ws') (hrc : rm.cells = mc) (hrs : rm.slots = ms)
    (hd : y.cls ≠ "java/lang/invoke/MethodHandle" ∧ y.cls ≠ "java/lang/invoke/VarHandle" ∧ (parseMethodDescriptor y.desc).map (fun d => d.parameters.length) = some n) (hR : rm.frames + 1 ≤ R.frames ∧ 8 + (maxL + 11) + rm.locals ≤ R.locals) :
    vx_CSW R s args own index y bytes maxL ret hh ws rm mc ms n := by
  have ok : ∀ w ∈ va_wsS own index y ws, w.before args s = true := fun w h => ht w (hT w h).1
  have hG : GoodIn Ts ws := fun w h => hT w (by unfold va_wsS; exact List.mem_append_right _ h)
  have hc : Cond.codeWith y bytes maxL ret hh ∈ ws := by rw [hw]; exact List.mem_cons_self
  refine ⟨⟨hrc, hrs, hR.1, hR.2, pay_in ht hG, hc⟩, ht _ (hG _ hc).1, ok _ (by simp [va_wsS]), ⟨hd.1, hd.2.1⟩, fun sig h => ?_, ok _ (by simp [va_wsS]), ok _ (by simp [va_wsS])⟩
  have h2 := hd.2.2
  rw [h] at h2
  exact (Option.some.inj h2).symm
theorem vx_callSW (X : Stand p l e R s m args below meth c T locs cells slots) (hexec : p.tables.exec = Jvm.exec) {own : String} {index : Nat} {y : MethodName} {bytes : ByteArray} {maxL : Nat} {ret : Option FieldType} {hh : List (Nat × Nat × Nat × Nat)}
    (hown : s.vm.findClass own = some m.cls) (hlink : (Cond.methodLink own index y).before args s = true) (hstat : (Cond.static y).before args s = true) (hinit : (Cond.initialized y.cls).before args s = true)
    (hcode : (Cond.codeWith y bytes maxL ret hh).before args s = true) (hy : y.cls ≠ "java/lang/invoke/MethodHandle" ∧ y.cls ≠ "java/lang/invoke/VarHandle")
    {W9 : Nat} {Pre : Pt → Array Value → Prop} {Post : Pt → Array Value → Option Value → Pt → Prop} (hK : Back l R p e below s args y 3 W9 Pre Post)
    {g : JFrame} (hg : g.method = m) (hsize : g.locals.size = c.maxLocals) {argsL rest : List Value} (hlen : ∀ sig, parseMethodDescriptor y.desc = some sig → argsL.length = sig.parameters.length)
    (hstack : g.stack = argsL.reverse ++ rest) (hW : 2 * g.monitorRoom + (rest.map fun v => v.category).sum ≤ W9) (hdg : decode c.code g.pc = .ok (.invokestatic index, 3))
    (hpre : ∀ vm₁, s.WarmedH vm₁ → Pre ⟨T.setVm vm₁, locs, cells, slots⟩ argsL.toArray) :
    ∃ (v : Option Value) (vm₁ : Vm) (B : Pt), s.WarmedH vm₁ ∧ Stand p l e R s m args below meth c B.U B.locs B.cells B.slots ∧ Post ⟨T.setVm vm₁, locs, cells, slots⟩ argsL.toArray v B ∧
      ∀ target, Steps p.tables e below (B.U.setTop { g with pc := g.pc + 3, stack := v.toList ++ rest }) target → Steps p.tables e below (T.setTop g) target := by
  obtain ⟨mk, methM, cM, hnamed, hmethM, -, -, -, -, -, -, hsigM⟩ := Cond.codeWith_spec hcode
  have hstatic : methM.isStatic = true := Cond.static_spec hnamed hmethM hstat
  obtain ⟨kP, hkP, -⟩ := className_of_methodNamed hnamed
  have hinitP : kP.init = .initialized := Cond.initialized_spec (findClass_of_methodNamed hnamed) hkP hinit
  obtain ⟨vm₁, X₁, hstep₁⟩ := X.invokestatic hexec hown hlink hnamed hmethM hstatic hkP hinitP hy (g := g) hg (argsL := argsL) (rest := rest) (hlen _ hsigM) hstack hdg
  obtain ⟨v, B, X', hpost, hsteps⟩ := hK m meth c ⟨T.setVm vm₁, locs, cells, slots⟩ { g with stack := rest } (.invokestatic index) mk argsL.toArray X₁ hg hsize hdg hW (X₁.named hnamed) (hpre vm₁ X₁.warmed)
  exact ⟨v, vm₁, B, X₁.warmed, X', hpost, fun target h => hstep₁ _ fun acts => by rw [doInvoke_state]; exact hsteps.trans h⟩
theorem vx_runSW {y : MethodName} {bytes cc : ByteArray} {maxL nL mc ms n index : Nat} {ret : Option FieldType} {hh : List (Nat × Nat × Nat × Nat)} {ws : List Cond} {rm : Room} {Pc : Array Value → State → Prop} {Qc : Array Value → State → Outcome → State → Prop} {free : Addr → Prop} {Ts : List Cond} {own : String} {As rest : List Value} {g : JFrame}
    (S : CallFix p m c cc nL s args Ts own) (hM : Met l y ws rm Pc Qc mc ms free) (cw : vx_CSW R s args own index y bytes maxL ret hh ws rm mc ms n) (hp : PreS s H Pc As)
    (hg : g.method = m) (hn : As.length = n) (hsize : g.locals.size = nL) (hstack : g.stack = As.reverse ++ rest) (hW : 2 * g.monitorRoom + (rest.map fun v => v.category).sum ≤ 8) (hdg : decode cc g.pc = .ok (.invokestatic index, 3)) (hf : cells + mc ≤ R.cells ∧ slots + ms ≤ R.slots) :
    va_Run p l e R s m args below meth c H locs cells slots mc ms g rest (Qc As.toArray) (free) := by
  obtain ⟨⟨hrc, hrs, hfr, hlo, hws, hcw⟩, hcode, hini, hy, hlen, hl, hstt⟩ := cw
  have hK : Back l R p e below s args y 3 8 (PreOf R mc ms Pc) (PostOf Qc mc ms free) := va_backW (hh := hh) (bytes := bytes) (maxL := maxL) (ret := ret) hM hp.1 hrc hrs hfr hlo hws hcw (fun a' U hW => word_at hW (Or.inl (by first | rfl | simp [Cond.onTables, Cond.keeps, Cond.steady])) hini)
  obtain ⟨hx, hb, hml, ho, -⟩ := S
  intro T hT X
  obtain ⟨v, vm₁, ⟨U', l2, c2, s2⟩, hW₁, X', ⟨g', mk, t, L, e1, e2, hq, h1, hL, h2, h3⟩, st⟩ := vx_callSW X hx (hh := hh) (bytes := bytes) (maxL := maxL) (ret := ret) ho hl hstt hini hcode hy hK hg (hsize.trans hml.symm) (argsL := As) (rest := rest) (fun sig h => hn.trans (hlen sig h)) hstack hW (by rw [hb]; exact hdg)
    (fun vm₁ hW₁ => ⟨hf.1, hf.2, hp.2 (T.setVm vm₁) hT hW₁⟩)
  dsimp only [Pt.U, Pt.locs, Pt.cells, Pt.slots] at X' e1 e2 h1 h2 h3 st
  subst h1; subst h2; subst h3
  exact ⟨v, (T.setVm vm₁).calling g' mk As.toArray, t, U', L, hT, X', hL, e1, e2, hq, st⟩
/-- not caught here, past rows that name other classes: it goes on to the caller -/
theorem vx_outP {p : Program} {l : Launch} {e : Env} {R : Room} {s : State} {m : MethodId} {args : Array Value} {below : List Frame} {meth : Method} {c : Code} {H : Heap} {locs : List Loc} {cells slots : Nat} {free : Addr → Prop} {ls : Array Slot} {rest : List Value} {Qc : Array Value → State → Outcome → State → Prop} {XC : String → State → State → Prop}
    {pc : Nat} {own E : String} {ce : Cell} {q : Addr} {mc ms : Nat} (hown : s.vm.findClass own = some m.cls) (hlocks : meth.locks = false)
    (hpass : ∀ z ∈ c.exceptionTable.toList, covers z pc = false ∨ (z.catchType ≠ 0 ∧ ∃ nm : String, (Cond.classLink own z.catchType nm).before args s = true ∧ va_Nc E nm s)) (hcell : H[q]? = some ce) (hv : ce.vm = .none) (hcl : s.vm.findClass E = some ce.cls)
    (hx : ∀ t : State, t.heap = H → s.vm.Alike t.vm → XC E s t) (hf : ∀ z ∈ locs, free z.base) (hc : cells ≤ mc) (hs : slots ≤ ms) :
    vx_W p l e R s m args below meth c H locs cells slots (vx_MQ below Qc XC args s mc ms free) (F0 m pc ls rest) q := by
  intro T hT X
  have hpl : e.platform.magicAccessors = ({} : Platform).magicAccessors := by rw [X.admits.platform]
  obtain ⟨vm', hW', X', st⟩ := X.outThrough hlocks q (g := F0 m pc ls rest) rfl rfl rfl (cell := ce) (by rw [hT]; exact hcell) (by rw [hv]; rfl)
    (by obtain ⟨k9, h9, -⟩ := Vm.findClass_spec hcl; exact ⟨k9, h9⟩) (fun z hz => by
      rcases hpass z hz with h | ⟨hz0, nm, hl1, hn1⟩
      · exact Or.inl h
      · obtain ⟨c6, hc6, hcl6⟩ := Cond.classLink_spec hown hl1 e.platform hpl
        obtain ⟨a8, b8, h1, h2, h3⟩ := hn1
        cases Option.some.inj (h1.symm.trans hcl)
        cases Option.some.inj (h2.symm.trans hc6)
        exact Or.inr ⟨hz0, _, hcl6, h3⟩)
  obtain ⟨g₀, hfr⟩ := X'.frames_eq
  have hcell9 : ((T.setVm vm').setFrames (.throwing q :: below)).heap[q]? = some ce := by
    show T.heap[q]? = some ce
    rw [hT]; exact hcell
  have hend : Ended ((T.setVm vm').setFrames (.throwing q :: below)) below (.threw q) := State.frames_setFrames _ (State.cur_lt_of_frames hfr)
  refine ⟨(T.setVm vm').setFrames (.throwing q :: below), ?_, .threw q, X'.here.running, hend, Or.inr ⟨q, rfl, E, ce, locs, hx _ hT (X'.ends _).1.alike, hcell9, hv, hcl, (X'.ends _).1, (X'.ends _).2.mono hc hs, hf⟩⟩
  rw [X.pushThrowing_eq]
  exact st
/-- a thing of a world lies in the heap -/
theorem vx_lt {D : va_G} {cl : List vw_C} {ws : va_W} {H1 : Heap} (h : va_P D cl ws H1) {k : Nat} {q : Nat × va_E} (hk : ws[k]? = some q) : q.1 < H1.size := (h k q hk).lt
end VXS
/-! ===== END ===== -/
/-! ===== BEGIN methods with a table of their own: called by a name, returning or throwing ===== -/
section VXH
/-! vx_backW, vx_callVX, vx_callSX, vx_callVW, vx_runVW, vx_runVX, vx_runSX, vx_ofWH follow the same proofs as their sisters above (Free/Laws.lean, Shelf42/LK1.lean); vx_outP calls Shelf42/NT130.lean (outThrough). -/
section
variable {l : Launch} {R : Room} {p : Program} {e : Env} {below : List Frame} {s : State} {sargs : Array Value} {y : MethodName} {len W9 : Nat}
theorem vx_backW {ws : List Cond} {rm : Room} {Pc : Array Value → State → Prop} {Qc : Array Value → State → Outcome → State → Prop} {XC : String → State → State → Prop} {mc ms : Nat} {free : Addr → Prop} {bytes : ByteArray} {maxL : Nat} {ret : Option FieldType} {hh : List (Nat × Nat × Nat × Nat)}
    (hM : vx_Met l y ws rm Pc Qc XC mc ms free) (hblind : FrameBlind Pc) (hrc : rm.cells = mc) (hrs : rm.slots = ms)
    (hframes : rm.frames + 1 ≤ R.frames) (hlocals : W9 + (maxL + 11) + rm.locals ≤ R.locals)
    (hws : ∀ w ∈ ws, ∀ a' U, s.WarmedH U.vm → w.before a' U = true) (hcode : Cond.codeWith y bytes maxL ret hh ∈ ws) (hinit : ∀ a' U, s.WarmedH U.vm → (Cond.initialized y.cls).before a' U = true) :
    vx_Back l R p e below s sargs y len W9 (PreOf R mc ms Pc) (PostOf Qc mc ms free) (vx_Post XC mc ms free) := by
  intro m meth c A g ig mk a X hg hsize hdg hW hn hp
  have h1 : (headSpec ws rm).pre.before a A.U = true := atoms_intro fun w hw => hws w hw _ _ X.warmed
  have h2 : (Cond.codeWith y bytes maxL ret hh).before a A.U = true := hws _ hcode _ _ X.warmed
  have h3 : (Cond.initialized y.cls).before a A.U = true := hinit _ _ X.warmed
  have h4 : A.cells + (headSpec ws rm).room.cells ≤ R.cells := by rw [show (headSpec ws rm).room.cells = mc from hrc]; exact hp.1
  have h5 : A.slots + (headSpec ws rm).room.slots ≤ R.slots := by rw [show (headSpec ws rm).room.slots = ms from hrs]; exact hp.2.1
  have hPc : Pc a (A.U.calling g mk a) := hblind _ _ _ _ hp.2.2
  obtain ⟨U, Ls, c0, s0⟩ := A
  dsimp only [Pt.U, Pt.locs, Pt.cells, Pt.slots] at h1 h2 h3 h4 h5 X hn hPc ⊢
  obtain ⟨m9, methY, cY, hn9, hmY, hcY, -, hlY, -⟩ := Cond.codeWith_spec h2
  cases Option.some.inj (hn9.symm.trans hn)
  obtain ⟨kY, hkY, -⟩ := className_of_methodNamed hn
  have hinitY : kY.init = .initialized := Cond.initialized_spec (findClass_of_methodNamed hn) hkY h3
  have h : At U g.method c below := by rw [hg]; exact X.here
  have hlocals9 : W9 + (maxL + 11) + (headSpec ws rm).room.locals ≤ R.locals := hlocals
  have happ : (headSpec ws rm).appliesLoose y e.platform (U.calling g mk a) = true :=
    Spec.appliesLoose_calling (g := g) h hdg hn hkY hinitY
      (X.room_calling (g := g) (R' := (headSpec ws rm).room) hsize hmY hcY hframes (by rw [hlY]; omega) h4 h5) h1
  obtain ⟨mid, hmid⟩ := h.above
  have hfr : (U.setTop g).frames = (.java g :: mid) ++ below := by rw [State.frames_setTop' g h.top, hmid]; rfl
  obtain ⟨o, s₂, hsteps, -, hend, hq⟩ := Steps.callFree hM p X.admits X.cas X.clock (acts := []) hfr happ hPc trivial
  have hq' : vx_Q Qc XC mc ms free a (U.calling g mk a) o s₂ := hq
  rw [State.frames_setTop' g h.top] at hend
  obtain ⟨g₀, hg0⟩ := Option.isSome_iff_exists.mp h.top
  obtain ⟨r, hr⟩ := State.topJava?_eq_some.mp hg0
  have hr' : (({ U with heap := s₂.heap, slotsUsed := s₂.slotsUsed } : State).setVm s₂.vm).frames = .java g₀ :: r := hr
  rcases hq' with ⟨hqc, L, hfe, hL⟩ | ⟨q, rfl, E, ce, L, hx, hce, hcv, hcl, hW₂, hsm, hL⟩
  · obtain ⟨⟨v, rfl⟩, hW₂, e2, q2, q3, q4, q5, q6⟩ := id hfe
    have e3 : s₂ = ({ (U.calling g mk a).setFrames s₂.frames with heap := s₂.heap, slotsUsed := s₂.slotsUsed } : State).setVm s₂.vm := by
      have : s₂ = ({ s₂ with vm := (U.calling g mk a).vm } : State).setVm s₂.vm := rfl
      rw [e2] at this
      exact this
    obtain ⟨c₂, i₂, len₂, hc₂, hd₂, hf₂⟩ := hend
    have hW' : U.WarmedH s₂.vm := hW₂
    have hcc : c₂ = c := by
      have h1 : s₂.code? g.method = U.code? g.method := by
        rw [State.code?_eq, State.code?_eq, hW'.alike.method?]
      exact Option.some.inj (hc₂.symm.trans (h1.trans h.code))
    subst hcc
    have hlen : len₂ = len := by rw [hdg] at hd₂; cases hd₂; rfl
    subst hlen
    have hs₂ : s₂ = (({ U with heap := s₂.heap, slotsUsed := s₂.slotsUsed } : State).setVm s₂.vm).setTop { g with pc := g.pc + len₂, stack := v.toList ++ g.stack } := by
      refine e3.trans ?_
      rw [hf₂, State.calling_eq h.top, State.setFrames_setFrames, State.setTop_of_frames _ hr', hr]
      rfl
    have hsame : U.sameButNew ({ U with heap := s₂.heap, slotsUsed := s₂.slotsUsed } : State) L mc ms := by
      refine ⟨?_, q2, q3, q4, q5, q6⟩
      obtain ⟨t, ht, -⟩ := State.frames_cons hr
      show ({ U with heap := s₂.heap, slotsUsed := s₂.slotsUsed } : State) = { U.setFrames U.frames with heap := s₂.heap, slotsUsed := s₂.slotsUsed }
      rw [State.setFrames_self ht]
    subst hg
    refine Or.inl ⟨v, ⟨(({ U with heap := s₂.heap, slotsUsed := s₂.slotsUsed } : State).setVm s₂.vm), Ls ++ L, c0 + mc, s0 + ms⟩,
      ⟨X.admits, X.cas, X.clock, X.frames, X.room, X.hears, X.method, X.code, (X.here.setHeapUsed s₂.heap s₂.slotsUsed).setVm hW'.alike, X.tail, State.WarmedH.trans X.warmed hW', X.limits, X.bytes, X.same.trans (hsame.setVm s.vm)⟩,
      ⟨g, mk, s₂, L, rfl, rfl, hqc, rfl, hL, rfl, rfl⟩, ?_⟩
    show Steps p.tables e below _ ((({ U with heap := s₂.heap, slotsUsed := s₂.slotsUsed } : State).setVm s₂.vm).setTop { g with pc := g.pc + len₂, stack := v.toList ++ g.stack })
    rw [← hs₂]
    exact hsteps
  · obtain ⟨e2, q2, q3, q4, q5, q6⟩ := id hsm
    have e3 : s₂ = ({ (U.calling g mk a).setFrames s₂.frames with heap := s₂.heap, slotsUsed := s₂.slotsUsed } : State).setVm s₂.vm := by
      have : s₂ = ({ s₂ with vm := (U.calling g mk a).vm } : State).setVm s₂.vm := rfl
      rw [e2] at this
      exact this
    have hf₂ : s₂.frames = .throwing q :: .java g :: U.frames.tail := hend
    have hW' : U.WarmedH s₂.vm := hW₂
    have hs₂ : s₂ = ((({ U with heap := s₂.heap, slotsUsed := s₂.slotsUsed } : State).setVm s₂.vm).setTop g).pushFrame (.throwing q) := by
      refine e3.trans ?_
      rw [hf₂, State.calling_eq h.top, State.setFrames_setFrames, State.pushFrame, State.frames_setTop _ hr', State.setTop_of_frames _ hr', State.setFrames_setFrames, hr]
      rfl
    have hsame : U.sameButNew ({ U with heap := s₂.heap, slotsUsed := s₂.slotsUsed } : State) L mc ms := by
      refine ⟨?_, q2, q3, q4, q5, q6⟩
      obtain ⟨t, ht, -⟩ := State.frames_cons hr
      show ({ U with heap := s₂.heap, slotsUsed := s₂.slotsUsed } : State) = { U.setFrames U.frames with heap := s₂.heap, slotsUsed := s₂.slotsUsed }
      rw [State.setFrames_self ht]
    subst hg
    refine Or.inr ⟨q, ⟨(({ U with heap := s₂.heap, slotsUsed := s₂.slotsUsed } : State).setVm s₂.vm), Ls ++ L, c0 + mc, s0 + ms⟩,
      ⟨X.admits, X.cas, X.clock, X.frames, X.room, X.hears, X.method, X.code, (X.here.setHeapUsed s₂.heap s₂.slotsUsed).setVm hW'.alike, X.tail, State.WarmedH.trans X.warmed hW', X.limits, X.bytes, X.same.trans (hsame.setVm s.vm)⟩,
      ⟨g, mk, s₂, L, E, ce, rfl, rfl, hx, hce, hcv, hcl, rfl, hL, rfl, rfl⟩, ?_⟩
    show Steps p.tables e below _ (((({ U with heap := s₂.heap, slotsUsed := s₂.slotsUsed } : State).setVm s₂.vm).setTop g).pushFrame (.throwing q))
    rw [← hs₂]
    exact hsteps
end
variable {p : Program} {l : Launch} {e : Env} {R : Room} {s : State} {m : MethodId} {args : Array Value} {below : List Frame} {meth : Method} {c : Code} {T : State} {H : Heap} {locs : List Loc} {cells slots : Nat}
theorem vx_callVX (X : Stand p l e R s m args below meth c T locs cells slots) (hexec : p.tables.exec = Jvm.exec) {own C : String} {index : Nat} {y : MethodName} {bytes : ByteArray} {maxL : Nat} {ret : Option FieldType} {hh : List (Nat × Nat × Nat × Nat)}
    (hown : s.vm.findClass own = some m.cls) (hlink : (Cond.methodLink own index y).before args s = true) (hinst : (Cond.instanceMethod y).before args s = true) (hsel : (Cond.selects C y y).before args s = true)
    (hcode : (Cond.codeWith y bytes maxL ret hh).before args s = true) (hy : y.cls ≠ "java/lang/invoke/MethodHandle" ∧ y.cls ≠ "java/lang/invoke/VarHandle")
    {W9 : Nat} {Pre : Pt → Array Value → Prop} {Post : Pt → Array Value → Option Value → Pt → Prop} {PostX : Pt → Array Value → Addr → Pt → Prop} (hK : vx_Back l R p e below s args y 3 W9 Pre Post PostX)
    {b : Addr} {cellB : Cell} (hcell : T.heap[b]? = some cellB) (hobj : cellB.vm.isStatics = false) (hcls : s.vm.findClass C = some cellB.cls)
    {g : JFrame} (hg : g.method = m) (hsize : g.locals.size = c.maxLocals) {argsL rest : List Value} (hlen : ∀ sig, parseMethodDescriptor y.desc = some sig → argsL.length = sig.parameters.length)
    (hstack : g.stack = argsL.reverse ++ .ref b :: rest) (hW : 2 * g.monitorRoom + (rest.map fun v => v.category).sum ≤ W9) (hdg : decode c.code g.pc = .ok (.invokevirtual index, 3))
    (hpre : ∀ vm₁, s.WarmedH vm₁ → Pre ⟨T.setVm vm₁, locs, cells, slots⟩ (Value.ref b :: argsL).toArray) :
    (∃ (v : Option Value) (vm₁ : Vm) (B : Pt), s.WarmedH vm₁ ∧ Stand p l e R s m args below meth c B.U B.locs B.cells B.slots ∧ Post ⟨T.setVm vm₁, locs, cells, slots⟩ (Value.ref b :: argsL).toArray v B ∧
      ∀ target, Steps p.tables e below (B.U.setTop { g with pc := g.pc + 3, stack := v.toList ++ rest }) target → Steps p.tables e below (T.setTop g) target) ∨
    (∃ (q : Addr) (vm₁ : Vm) (B : Pt), s.WarmedH vm₁ ∧ Stand p l e R s m args below meth c B.U B.locs B.cells B.slots ∧ PostX ⟨T.setVm vm₁, locs, cells, slots⟩ (Value.ref b :: argsL).toArray q B ∧
      Steps p.tables e below (T.setTop g) ((B.U.setTop { g with stack := rest }).pushFrame (.throwing q))) := by
  obtain ⟨mk, methM, hnamed, hmethM, hstM, habM⟩ := Cond.instanceMethod_spec hinst
  obtain ⟨m8, methM', cM, hn8, hmethM', -, -, -, -, -, -, hsigM⟩ := Cond.codeWith_spec hcode
  cases Option.some.inj (hn8.symm.trans hnamed)
  cases hmethM.symm.trans hmethM'
  obtain ⟨c2, r2, m2, q1, q2, q3, q4, kP, hkP, hkPi⟩ := Cond.selects_spec hsel
  cases hcls.symm.trans q1
  cases (State.methodFound?_of_named hnamed hy).symm.trans q2
  cases hnamed.symm.trans q3
  have hselP : selectMethod e.platform s.vm cellB.cls mk = .method mk := by rw [Launch.admits_selectMethod X.admits]; exact q4
  obtain ⟨vm₁, X₁, hstep₁⟩ := X.invokevirtual hexec hown hlink hnamed hmethM hstM hkP hkPi hy (a := b) (cell := cellB) hcell
    (fun z h => by rw [h] at hobj; cases hobj) hselP hmethM habM hkP hkPi (g := g) hg (argsL := argsL) (rest := rest) (hlen _ hsigM) hstack hdg
  rcases hK m meth c ⟨T.setVm vm₁, locs, cells, slots⟩ { g with stack := rest } (.invokevirtual index) mk (Value.ref b :: argsL).toArray X₁ hg hsize hdg hW (X₁.named hnamed) (hpre vm₁ X₁.warmed) with ⟨v, B, X', hpost, hsteps⟩ | ⟨q, B, X', hpost, hsteps⟩
  · exact Or.inl ⟨v, vm₁, B, X₁.warmed, X', hpost, fun target h => hstep₁ _ fun acts => by rw [doInvoke_state]; exact hsteps.trans h⟩
  · exact Or.inr ⟨q, vm₁, B, X₁.warmed, X', hpost, hstep₁ _ fun acts => by rw [doInvoke_state]; exact hsteps⟩
theorem vx_callSX (X : Stand p l e R s m args below meth c T locs cells slots) (hexec : p.tables.exec = Jvm.exec) {own : String} {index : Nat} {y : MethodName} {bytes : ByteArray} {maxL : Nat} {ret : Option FieldType} {hh : List (Nat × Nat × Nat × Nat)}
    (hown : s.vm.findClass own = some m.cls) (hlink : (Cond.methodLink own index y).before args s = true) (hstat : (Cond.static y).before args s = true) (hinit : (Cond.initialized y.cls).before args s = true)
    (hcode : (Cond.codeWith y bytes maxL ret hh).before args s = true) (hy : y.cls ≠ "java/lang/invoke/MethodHandle" ∧ y.cls ≠ "java/lang/invoke/VarHandle")
    {W9 : Nat} {Pre : Pt → Array Value → Prop} {Post : Pt → Array Value → Option Value → Pt → Prop} {PostX : Pt → Array Value → Addr → Pt → Prop} (hK : vx_Back l R p e below s args y 3 W9 Pre Post PostX)
    {g : JFrame} (hg : g.method = m) (hsize : g.locals.size = c.maxLocals) {argsL rest : List Value} (hlen : ∀ sig, parseMethodDescriptor y.desc = some sig → argsL.length = sig.parameters.length)
    (hstack : g.stack = argsL.reverse ++ rest) (hW : 2 * g.monitorRoom + (rest.map fun v => v.category).sum ≤ W9) (hdg : decode c.code g.pc = .ok (.invokestatic index, 3))
    (hpre : ∀ vm₁, s.WarmedH vm₁ → Pre ⟨T.setVm vm₁, locs, cells, slots⟩ argsL.toArray) :
    (∃ (v : Option Value) (vm₁ : Vm) (B : Pt), s.WarmedH vm₁ ∧ Stand p l e R s m args below meth c B.U B.locs B.cells B.slots ∧ Post ⟨T.setVm vm₁, locs, cells, slots⟩ argsL.toArray v B ∧
      ∀ target, Steps p.tables e below (B.U.setTop { g with pc := g.pc + 3, stack := v.toList ++ rest }) target → Steps p.tables e below (T.setTop g) target) ∨
    (∃ (q : Addr) (vm₁ : Vm) (B : Pt), s.WarmedH vm₁ ∧ Stand p l e R s m args below meth c B.U B.locs B.cells B.slots ∧ PostX ⟨T.setVm vm₁, locs, cells, slots⟩ argsL.toArray q B ∧
      Steps p.tables e below (T.setTop g) ((B.U.setTop { g with stack := rest }).pushFrame (.throwing q))) := by
  obtain ⟨mk, methM, cM, hnamed, hmethM, -, -, -, -, -, -, hsigM⟩ := Cond.codeWith_spec hcode
  have hstatic : methM.isStatic = true := Cond.static_spec hnamed hmethM hstat
  obtain ⟨kP, hkP, -⟩ := className_of_methodNamed hnamed
  have hinitP : kP.init = .initialized := Cond.initialized_spec (findClass_of_methodNamed hnamed) hkP hinit
  obtain ⟨vm₁, X₁, hstep₁⟩ := X.invokestatic hexec hown hlink hnamed hmethM hstatic hkP hinitP hy (g := g) hg (argsL := argsL) (rest := rest) (hlen _ hsigM) hstack hdg
  rcases hK m meth c ⟨T.setVm vm₁, locs, cells, slots⟩ { g with stack := rest } (.invokestatic index) mk argsL.toArray X₁ hg hsize hdg hW (X₁.named hnamed) (hpre vm₁ X₁.warmed) with ⟨v, B, X', hpost, hsteps⟩ | ⟨q, B, X', hpost, hsteps⟩
  · exact Or.inl ⟨v, vm₁, B, X₁.warmed, X', hpost, fun target h => hstep₁ _ fun acts => by rw [doInvoke_state]; exact hsteps.trans h⟩
  · exact Or.inr ⟨q, vm₁, B, X₁.warmed, X', hpost, hstep₁ _ fun acts => by rw [doInvoke_state]; exact hsteps⟩
theorem vx_callVW (X : Stand p l e R s m args below meth c T locs cells slots) (hexec : p.tables.exec = Jvm.exec) {own C : String} {index : Nat} {y : MethodName} {bytes : ByteArray} {maxL : Nat} {ret : Option FieldType} {hh : List (Nat × Nat × Nat × Nat)}
    (hown : s.vm.findClass own = some m.cls) (hlink : (Cond.methodLink own index y).before args s = true) (hinst : (Cond.instanceMethod y).before args s = true) (hsel : (Cond.selects C y y).before args s = true)
    (hcode : (Cond.codeWith y bytes maxL ret hh).before args s = true) (hy : y.cls ≠ "java/lang/invoke/MethodHandle" ∧ y.cls ≠ "java/lang/invoke/VarHandle")
    {W9 : Nat} {Pre : Pt → Array Value → Prop} {Post : Pt → Array Value → Option Value → Pt → Prop} (hK : Back l R p e below s args y 3 W9 Pre Post)
    {b : Addr} {cellB : Cell} (hcell : T.heap[b]? = some cellB) (hobj : cellB.vm.isStatics = false) (hcls : s.vm.findClass C = some cellB.cls)
    {g : JFrame} (hg : g.method = m) (hsize : g.locals.size = c.maxLocals) {argsL rest : List Value} (hlen : ∀ sig, parseMethodDescriptor y.desc = some sig → argsL.length = sig.parameters.length)
    (hstack : g.stack = argsL.reverse ++ .ref b :: rest) (hW : 2 * g.monitorRoom + (rest.map fun v => v.category).sum ≤ W9) (hdg : decode c.code g.pc = .ok (.invokevirtual index, 3))
    (hpre : ∀ vm₁, s.WarmedH vm₁ → Pre ⟨T.setVm vm₁, locs, cells, slots⟩ (Value.ref b :: argsL).toArray) :
    ∃ (v : Option Value) (vm₁ : Vm) (B : Pt), s.WarmedH vm₁ ∧ Stand p l e R s m args below meth c B.U B.locs B.cells B.slots ∧ Post ⟨T.setVm vm₁, locs, cells, slots⟩ (Value.ref b :: argsL).toArray v B ∧
      ∀ target, Steps p.tables e below (B.U.setTop { g with pc := g.pc + 3, stack := v.toList ++ rest }) target → Steps p.tables e below (T.setTop g) target := by
  obtain ⟨mk, methM, hnamed, hmethM, hstM, habM⟩ := Cond.instanceMethod_spec hinst
  obtain ⟨m8, methM', cM, hn8, hmethM', -, -, -, -, -, -, hsigM⟩ := Cond.codeWith_spec hcode
  cases Option.some.inj (hn8.symm.trans hnamed)
  cases hmethM.symm.trans hmethM'
  obtain ⟨c2, r2, m2, q1, q2, q3, q4, kP, hkP, hkPi⟩ := Cond.selects_spec hsel
  cases hcls.symm.trans q1
  cases (State.methodFound?_of_named hnamed hy).symm.trans q2
  cases hnamed.symm.trans q3
  have hselP : selectMethod e.platform s.vm cellB.cls mk = .method mk := by rw [Launch.admits_selectMethod X.admits]; exact q4
  obtain ⟨vm₁, X₁, hstep₁⟩ := X.invokevirtual hexec hown hlink hnamed hmethM hstM hkP hkPi hy (a := b) (cell := cellB) hcell
    (fun z h => by rw [h] at hobj; cases hobj) hselP hmethM habM hkP hkPi (g := g) hg (argsL := argsL) (rest := rest) (hlen _ hsigM) hstack hdg
  obtain ⟨v, B, X', hpost, hsteps⟩ := hK m meth c ⟨T.setVm vm₁, locs, cells, slots⟩ { g with stack := rest } (.invokevirtual index) mk (Value.ref b :: argsL).toArray X₁ hg hsize hdg hW (X₁.named hnamed) (hpre vm₁ X₁.warmed)
  exact ⟨v, vm₁, B, X₁.warmed, X', hpost, fun target h => hstep₁ _ fun acts => by rw [doInvoke_state]; exact hsteps.trans h⟩
abbrev vx_CVW (R : Room) (s : State) (args : Array Value) (own C : String) (index : Nat) (y : MethodName) (bytes : ByteArray) (maxL : Nat) (ret : Option FieldType) (hh : List (Nat × Nat × Nat × Nat)) (ws : List Cond) (rm : Room) (mc ms n : Nat) : Prop :=
  (rm.cells = mc ∧ rm.slots = ms ∧ rm.frames + 1 ≤ R.frames ∧ 8 + (maxL + 11) + rm.locals ≤ R.locals ∧ (∀ w ∈ ws, ∀ (a' : Array Value) (U : State), s.WarmedH U.vm → w.before a' U = true) ∧ Cond.codeWith y bytes maxL ret hh ∈ ws) ∧
  (Cond.codeWith y bytes maxL ret hh).before args s = true ∧ (Cond.initialized y.cls).before args s = true ∧ (y.cls ≠ "java/lang/invoke/MethodHandle" ∧ y.cls ≠ "java/lang/invoke/VarHandle") ∧
  (∀ sig, parseMethodDescriptor y.desc = some sig → n = sig.parameters.length) ∧ (Cond.methodLink own index y).before args s = true ∧ (Cond.instanceMethod y).before args s = true ∧ (Cond.selects C y y).before args s = true
theorem vx_cwVW {own C : String} {index maxL mc ms : Nat} {y : MethodName} {bytes : ByteArray} {ret : Option FieldType} {hh : List (Nat × Nat × Nat × Nat)} {Ts ws ws' : List Cond} {rm : Room} (n : Nat) (ht : ∀ w ∈ Ts, w.before args s = true) (hT : GoodIn Ts (wsV own index C y ws)) (hw : ws = Cond.codeWith y bytes maxL ret hh :: ws') (hrc : rm.cells = mc) (hrs : rm.slots = ms)
    (hd : y.cls = C ∧ y.cls ≠ "java/lang/invoke/MethodHandle" ∧ y.cls ≠ "java/lang/invoke/VarHandle" ∧ (parseMethodDescriptor y.desc).map (fun d => d.parameters.length) = some n) (hR : rm.frames + 1 ≤ R.frames ∧ 8 + (maxL + 11) + rm.locals ≤ R.locals) :
    vx_CVW R s args own C index y bytes maxL ret hh ws rm mc ms n := by
  obtain ⟨hC, hd⟩ := hd
  subst hC
  have ok : ∀ w ∈ wsV own index y.cls y ws, w.before args s = true := fun w h => ht w (hT w h).1
  have hG : GoodIn Ts ws := fun w h => hT w (by unfold wsV; exact List.mem_append_right _ h)
  have hc : Cond.codeWith y bytes maxL ret hh ∈ ws := by rw [hw]; exact List.mem_cons_self
  refine ⟨⟨hrc, hrs, hR.1, hR.2, pay_in ht hG, hc⟩, ht _ (hG _ hc).1, ok _ (by simp [wsV]), ⟨hd.1, hd.2.1⟩, fun sig h => ?_, ok _ (by simp [wsV]), ok _ (by simp [wsV]), ok _ (by simp [wsV])⟩
  have h2 := hd.2.2
  rw [h] at h2
  exact (Option.some.inj h2).symm
theorem vx_runVW {y : MethodName} {bytes cc : ByteArray} {maxL nL mc ms n index : Nat} {ret : Option FieldType} {hh : List (Nat × Nat × Nat × Nat)} {ws : List Cond} {rm : Room} {Pc : Array Value → State → Prop} {Qc : Array Value → State → Outcome → State → Prop} {free : Addr → Prop} {Ts : List Cond} {own C : String} {b : Addr} {As rest : List Value} {g : JFrame}
    (S : CallFix p m c cc nL s args Ts own) (hM : Met l y ws rm Pc Qc mc ms free) (cw : vx_CVW R s args own C index y bytes maxL ret hh ws rm mc ms n) (hp : PreV s H C b Pc As)
    (hg : g.method = m) (hn : As.length = n) (hsize : g.locals.size = nL) (hstack : g.stack = As.reverse ++ .ref b :: rest) (hW : 2 * g.monitorRoom + (rest.map fun v => v.category).sum ≤ 8) (hdg : decode cc g.pc = .ok (.invokevirtual index, 3)) (hf : cells + mc ≤ R.cells ∧ slots + ms ≤ R.slots) :
    va_Run p l e R s m args below meth c H locs cells slots mc ms g rest (Qc (Value.ref b :: As).toArray) free := by
  obtain ⟨⟨hrc, hrs, hfr, hlo, hws, hcw⟩, hcode, hini, hy, hlen, hl, hin, hse⟩ := cw
  have hK : Back l R p e below s args y 3 8 (PreOf R mc ms Pc) (PostOf Qc mc ms free) := va_backW (hh := hh) (bytes := bytes) (maxL := maxL) (ret := ret) hM hp.1 hrc hrs hfr hlo hws hcw (fun a' U hW => word_at hW (Or.inl (by first | rfl | simp [Cond.onTables, Cond.keeps, Cond.steady])) hini)
  obtain ⟨hx, hb, hml, ho, -⟩ := S
  obtain ⟨-, ⟨cellB, hcB, hoB, hclB⟩, hPc⟩ := hp
  intro T hT X
  obtain ⟨v, vm₁, ⟨U', l2, c2, s2⟩, hW₁, X', ⟨g', mk, t, L, e1, e2, hq, h1, hL, h2, h3⟩, st⟩ := vx_callVW X hx (C := C) (hh := hh) (bytes := bytes) (maxL := maxL) (ret := ret) ho hl hin hse hcode hy hK (by rw [hT]; exact hcB) hoB hclB hg (hsize.trans hml.symm) (argsL := As) (rest := rest) (fun sig h => hn.trans (hlen sig h)) hstack hW (by rw [hb]; exact hdg)
    (fun vm₁ hW₁ => ⟨hf.1, hf.2, hPc (T.setVm vm₁) hT hW₁⟩)
  dsimp only [Pt.U, Pt.locs, Pt.cells, Pt.slots] at X' e1 e2 h1 h2 h3 st
  subst h1; subst h2; subst h3
  exact ⟨v, (T.setVm vm₁).calling g' mk (Value.ref b :: As).toArray, t, U', L, hT, X', hL, e1, e2, hq, st⟩
section
variable {y : MethodName} {bytes cc : ByteArray} {maxL nL mc ms n index : Nat} {ret : Option FieldType} {ws : List Cond} {rm : Room} {Pc : Array Value → State → Prop} {Qc : Array Value → State → Outcome → State → Prop} {XC : String → State → State → Prop} {free : Addr → Prop} {Ts : List Cond} {own C : String} {b : Addr} {As rest : List Value} {g : JFrame}
theorem vx_runVX {hh : List (Nat × Nat × Nat × Nat)} (S : CallFix p m c cc nL s args Ts own) (hM : vx_Met l y ws rm Pc Qc XC mc ms free) (cw : vx_CVW R s args own C index y bytes maxL ret hh ws rm mc ms n) (hp : PreV s H C b Pc As)
    (hg : g.method = m) (hn : As.length = n) (hsize : g.locals.size = nL) (hstack : g.stack = As.reverse ++ .ref b :: rest) (hW : 2 * g.monitorRoom + (rest.map fun v => v.category).sum ≤ 8) (hdg : decode cc g.pc = .ok (.invokevirtual index, 3)) (hf : cells + mc ≤ R.cells ∧ slots + ms ≤ R.slots) :
    vx_Run p l e R s m args below meth c H locs cells slots mc ms g rest (Qc (Value.ref b :: As).toArray) XC free := by
  obtain ⟨⟨hrc, hrs, hfr, hlo, hws, hcw⟩, hcode, hini, hy, hlen, hl, hin, hse⟩ := cw
  have hK : vx_Back l R p e below s args y 3 8 (PreOf R mc ms Pc) (PostOf Qc mc ms free) (vx_Post XC mc ms free) := vx_backW (hh := hh) (bytes := bytes) (maxL := maxL) (ret := ret) hM hp.1 hrc hrs hfr hlo hws hcw (fun a' U hW => word_at hW (Or.inl (by first | rfl | simp [Cond.onTables, Cond.keeps, Cond.steady])) hini)
  obtain ⟨hx, hb, hml, ho, -⟩ := S
  obtain ⟨-, ⟨cellB, hcB, hoB, hclB⟩, hPc⟩ := hp
  intro T hT X
  rcases vx_callVX X hx (C := C) (hh := hh) (bytes := bytes) (maxL := maxL) (ret := ret) ho hl hin hse hcode hy hK (by rw [hT]; exact hcB) hoB hclB hg (hsize.trans hml.symm) (argsL := As) (rest := rest) (fun sig h => hn.trans (hlen sig h)) hstack hW (by rw [hb]; exact hdg)
    (fun vm₁ hW₁ => ⟨hf.1, hf.2, hPc (T.setVm vm₁) hT hW₁⟩) with ⟨v, vm₁, ⟨U', l2, c2, s2⟩, hW₁, X', ⟨g', mk, t, L, e1, e2, hq, h1, hL, h2, h3⟩, st⟩ | ⟨q, vm₁, ⟨U', l2, c2, s2⟩, hW₁, X', ⟨g', mk, t, L, E, ce, e1, e2, hq, hce, hcv, hcl, h1, hL, h2, h3⟩, st⟩
  · dsimp only [Pt.U, Pt.locs, Pt.cells, Pt.slots] at X' e1 e2 h1 h2 h3 st
    subst h1; subst h2; subst h3
    exact Or.inl ⟨v, (T.setVm vm₁).calling g' mk (Value.ref b :: As).toArray, t, U', L, hT, X', hL, e1, e2, hq, st⟩
  · dsimp only [Pt.U, Pt.locs, Pt.cells, Pt.slots] at X' e1 e2 h1 h2 h3 st hcl
    subst h1; subst h2; subst h3
    exact Or.inr ⟨q, (T.setVm vm₁).calling g' mk (Value.ref b :: As).toArray, t, U', L, E, ce, hT, X', hL, e1, e2, hq, hce, hcv, vx_cls hW₁ hcl, st⟩
theorem vx_runSX {hh : List (Nat × Nat × Nat × Nat)} (S : CallFix p m c cc nL s args Ts own) (hM : vx_Met l y ws rm Pc Qc XC mc ms free) (cw : vx_CSW R s args own index y bytes maxL ret hh ws rm mc ms n) (hp : PreS s H Pc As)
    (hg : g.method = m) (hn : As.length = n) (hsize : g.locals.size = nL) (hstack : g.stack = As.reverse ++ rest) (hW : 2 * g.monitorRoom + (rest.map fun v => v.category).sum ≤ 8) (hdg : decode cc g.pc = .ok (.invokestatic index, 3)) (hf : cells + mc ≤ R.cells ∧ slots + ms ≤ R.slots) :
    vx_Run p l e R s m args below meth c H locs cells slots mc ms g rest (Qc As.toArray) XC free := by
  obtain ⟨⟨hrc, hrs, hfr, hlo, hws, hcw⟩, hcode, hini, hy, hlen, hl, hstt⟩ := cw
  have hK : vx_Back l R p e below s args y 3 8 (PreOf R mc ms Pc) (PostOf Qc mc ms free) (vx_Post XC mc ms free) := vx_backW (hh := hh) (bytes := bytes) (maxL := maxL) (ret := ret) hM hp.1 hrc hrs hfr hlo hws hcw (fun a' U hW => word_at hW (Or.inl (by first | rfl | simp [Cond.onTables, Cond.keeps, Cond.steady])) hini)
  obtain ⟨hx, hb, hml, ho, -⟩ := S
  intro T hT X
  rcases vx_callSX X hx (hh := hh) (bytes := bytes) (maxL := maxL) (ret := ret) ho hl hstt hini hcode hy hK hg (hsize.trans hml.symm) (argsL := As) (rest := rest) (fun sig h => hn.trans (hlen sig h)) hstack hW (by rw [hb]; exact hdg)
    (fun vm₁ hW₁ => ⟨hf.1, hf.2, hp.2 (T.setVm vm₁) hT hW₁⟩) with ⟨v, vm₁, ⟨U', l2, c2, s2⟩, hW₁, X', ⟨g', mk, t, L, e1, e2, hq, h1, hL, h2, h3⟩, st⟩ | ⟨q, vm₁, ⟨U', l2, c2, s2⟩, hW₁, X', ⟨g', mk, t, L, E, ce, e1, e2, hq, hce, hcv, hcl, h1, hL, h2, h3⟩, st⟩
  · dsimp only [Pt.U, Pt.locs, Pt.cells, Pt.slots] at X' e1 e2 h1 h2 h3 st
    subst h1; subst h2; subst h3
    exact Or.inl ⟨v, (T.setVm vm₁).calling g' mk As.toArray, t, U', L, hT, X', hL, e1, e2, hq, st⟩
  · dsimp only [Pt.U, Pt.locs, Pt.cells, Pt.slots] at X' e1 e2 h1 h2 h3 st hcl
    subst h1; subst h2; subst h3
    exact Or.inr ⟨q, (T.setVm vm₁).calling g' mk As.toArray, t, U', L, E, ce, hT, X', hL, e1, e2, hq, hce, hcv, vx_cls hW₁ hcl, st⟩
end
end VXH
theorem vx_ofWH {l : Launch} {y : MethodName} {ws ws' : List Cond} {rm : Room} {Pc : Array Value → State → Prop} {Qc : Array Value → State → Outcome → State → Prop} {XC : String → State → State → Prop} {mc ms : Nat} {free : Addr → Prop} {cc : ByteArray} {maxL : Nat} {ret : Option FieldType} {hh : List (Nat × Nat × Nat × Nat)}
    (hy : plainName y.cls = true) (hw : ws = Cond.codeWith y cc maxL ret hh :: ws')
    (body : ∀ p e s m args below meth c s₁, BodyLoose p l y (headSpec ws rm) cc maxL ret e s m args below meth c s₁ → c.maxLocals = maxL → Pc args s →
      W p l e (headSpec ws rm).room s m args below meth c s.heap [] 0 0 (vx_MQ below Qc XC args s mc ms free) (entryFrame m args maxL)) : vx_Met l y ws rm Pc Qc XC mc ms free := by
  refine MetFree.of_bodyS (code := cc) (maxLocals := maxL) (ret := ret) hy ?_ ?_
  · intro args s m h hn
    obtain ⟨m9, meth, c, hn9, h1, h2, h3, h4, -, h5, h6, -⟩ := Cond.codeWith_spec (atoms_spec (ws := ws) h _ (by rw [hw]; exact List.mem_cons_self))
    cases hn.symm.trans hn9
    exact ⟨meth, c, h1, h2, h3, h4, h5, h6⟩
  · intro p e s m args below meth c s₁ B hml hP _
    have hh0 : s₁.heap = s.heap := by rw [B.state]; rfl
    obtain ⟨t, a1, o, b1, b2, b3⟩ := body p e s m args below meth c s₁ B hml hP s₁ hh0 (Stand.of_body B)
    exact ⟨t, o, a1, b1, b2, b3⟩
/-! ===== END ===== -/
end
section
def WL : List Cond := lw_tbl.filter goodWord
def R_Ai : String := "CrateCushions$Air"
def R_Fo : String := "CrateCushions$Foams"
def R_Go : String := "CrateCushions$Goods"
def R_Jo : String := "CrateCushions$Journey"
def R_Pk : String := "CrateCushions$Packing"
def R_Sh : String := "CrateCushions$Shocks"
def R_Sk : String := "CrateCushions$Stock"
def R_Cc : String := "CrateCushions"
def R_Mo : String := "CrateCushionsModel"
def R_La : String := "CrateCushionsLaw"
def R_Ma : String := "java/lang/Math"
def R_In : String := "java/lang/Integer"
def F_Ai : u_T := fun k => match k with
  | 0 => ("CrateCushions$Air", "insideAfter", "[I", true)
  | 1 => ("CrateCushions$Air", "hours", "I", false)
  | _ => ("CrateCushions$Air", "lagHours", "I", false)
def t_Ai : Nat → FieldType := fun k => match k with
  | 0 => .array .int
  | 1 => .int
  | _ => .int
theorem n_Ai : ∀ a, a < 3 → ∀ b, b < 3 → a ≠ b → (F_Ai a).2.1 ≠ (F_Ai b).2.1 := by decide +kernel
theorem o_Ai : ∀ k, k < 3 → parseFieldDescriptor (F_Ai k).2.2.1 = some (t_Ai k) := by decide +kernel
theorem i_Ai : ∀ w ∈ u_ws R_Ai F_Ai 3, w ∈ WL := by decide +kernel
def F_Fo : u_T := fun k => match k with
  | 0 => ("CrateCushions$Foams", "rowCount", "[I", true)
  | 1 => ("CrateCushions$Foams", "thicknessOf", "[I", true)
  | 2 => ("CrateCushions$Foams", "pointCount", "[I", true)
  | 3 => ("CrateCushions$Foams", "stressOf", "[I", true)
  | _ => ("CrateCushions$Foams", "valueOf", "[I", true)
def t_Fo : Nat → FieldType := fun k => match k with
  | 0 => .array .int
  | 1 => .array .int
  | 2 => .array .int
  | 3 => .array .int
  | _ => .array .int
theorem n_Fo : ∀ a, a < 5 → ∀ b, b < 5 → a ≠ b → (F_Fo a).2.1 ≠ (F_Fo b).2.1 := by decide +kernel
theorem o_Fo : ∀ k, k < 5 → parseFieldDescriptor (F_Fo k).2.2.1 = some (t_Fo k) := by decide +kernel
theorem i_Fo : ∀ w ∈ u_ws R_Fo F_Fo 5, w ∈ WL := by decide +kernel
def F_Go : u_T := fun k => match k with
  | 0 => ("CrateCushions$Goods", "sizes", "[I", true)
  | 1 => ("CrateCushions$Goods", "grams", "[I", true)
  | 2 => ("CrateCushions$Goods", "weakSides", "[I", true)
  | 3 => ("CrateCushions$Goods", "cratesOfSet", "[I", true)
  | 4 => ("CrateCushions$Goods", "loadOfSet", "[I", true)
  | _ => ("CrateCushions$Goods", "count", "I", false)
def t_Go : Nat → FieldType := fun k => match k with
  | 0 => .array .int
  | 1 => .array .int
  | 2 => .array .int
  | 3 => .array .int
  | 4 => .array .int
  | _ => .int
theorem n_Go : ∀ a, a < 6 → ∀ b, b < 6 → a ≠ b → (F_Go a).2.1 ≠ (F_Go b).2.1 := by decide +kernel
theorem o_Go : ∀ k, k < 6 → parseFieldDescriptor (F_Go k).2.2.1 = some (t_Go k) := by decide +kernel
theorem i_Go : ∀ w ∈ u_ws R_Go F_Go 6, w ∈ WL := by decide +kernel
def F_Jo : u_T := fun k => match k with
  | 0 => ("CrateCushions$Journey", "drops", "[I", true)
  | _ => ("CrateCushions$Journey", "legCount", "I", false)
def t_Jo : Nat → FieldType := fun k => match k with
  | 0 => .array .int
  | _ => .int
theorem n_Jo : ∀ a, a < 2 → ∀ b, b < 2 → a ≠ b → (F_Jo a).2.1 ≠ (F_Jo b).2.1 := by decide +kernel
theorem o_Jo : ∀ k, k < 2 → parseFieldDescriptor (F_Jo k).2.2.1 = some (t_Jo k) := by decide +kernel
theorem i_Jo : ∀ w ∈ u_ws R_Jo F_Jo 2, w ∈ WL := by decide +kernel
def F_Pk : u_T := fun k => match k with
  | 0 => ("CrateCushions$Packing", "sizes", "[I", true)
  | 1 => ("CrateCushions$Packing", "wayOf", "[I", true)
  | 2 => ("CrateCushions$Packing", "startOf", "[I", true)
  | 3 => ("CrateCushions$Packing", "triedWay", "[I", true)
  | 4 => ("CrateCushions$Packing", "packed", "Z", false)
  | 5 => ("CrateCushions$Packing", "members", "I", false)
  | 6 => ("CrateCushions$Packing", "gap", "I", false)
  | _ => ("CrateCushions$Packing", "leastProduct", "J", false)
def t_Pk : Nat → FieldType := fun k => match k with
  | 0 => .array .int
  | 1 => .array .int
  | 2 => .array .int
  | 3 => .array .int
  | 4 => .boolean
  | 5 => .int
  | 6 => .int
  | _ => .long
theorem n_Pk : ∀ a, a < 8 → ∀ b, b < 8 → a ≠ b → (F_Pk a).2.1 ≠ (F_Pk b).2.1 := by decide +kernel
theorem o_Pk : ∀ k, k < 8 → parseFieldDescriptor (F_Pk k).2.2.1 = some (t_Pk k) := by decide +kernel
theorem i_Pk : ∀ w ∈ u_ws R_Pk F_Pk 8, w ∈ WL := by decide +kernel
def F_Sh : u_T := fun k => match k with
  | 0 => ("CrateCushions$Shocks", "peak", "I", false)
  | 1 => ("CrateCushions$Shocks", "longest", "I", false)
  | 2 => ("CrateCushions$Shocks", "count", "I", false)
  | _ => ("CrateCushions$Shocks", "toldCount", "I", false)
def t_Sh : Nat → FieldType := fun k => match k with
  | 0 => .int
  | 1 => .int
  | 2 => .int
  | _ => .int
theorem n_Sh : ∀ a, a < 4 → ∀ b, b < 4 → a ≠ b → (F_Sh a).2.1 ≠ (F_Sh b).2.1 := by decide +kernel
theorem o_Sh : ∀ k, k < 4 → parseFieldDescriptor (F_Sh k).2.2.1 = some (t_Sh k) := by decide +kernel
theorem i_Sh : ∀ w ∈ u_ws R_Sh F_Sh 4, w ∈ WL := by decide +kernel
def F_Sk : u_T := fun k => match k with
  | 0 => ("CrateCushions$Stock", "lengthOf", "[I", true)
  | 1 => ("CrateCushions$Stock", "widthOf", "[I", true)
  | 2 => ("CrateCushions$Stock", "heightOf", "[I", true)
  | 3 => ("CrateCushions$Stock", "taken", "[Z", true)
  | _ => ("CrateCushions$Stock", "count", "I", false)
def t_Sk : Nat → FieldType := fun k => match k with
  | 0 => .array .int
  | 1 => .array .int
  | 2 => .array .int
  | 3 => .array .boolean
  | _ => .int
theorem n_Sk : ∀ a, a < 5 → ∀ b, b < 5 → a ≠ b → (F_Sk a).2.1 ≠ (F_Sk b).2.1 := by decide +kernel
theorem o_Sk : ∀ k, k < 5 → parseFieldDescriptor (F_Sk k).2.2.1 = some (t_Sk k) := by decide +kernel
theorem i_Sk : ∀ w ∈ u_ws R_Sk F_Sk 5, w ∈ WL := by decide +kernel
def F_Cc : u_T := fun k => match k with
  | 0 => ("CrateCushions", "goods", "LCrateCushions$Goods;", true)
  | 1 => ("CrateCushions", "foams", "LCrateCushions$Foams;", true)
  | 2 => ("CrateCushions", "packing", "LCrateCushions$Packing;", true)
  | 3 => ("CrateCushions", "stock", "LCrateCushions$Stock;", true)
  | 4 => ("CrateCushions", "air", "LCrateCushions$Air;", true)
  | 5 => ("CrateCushions", "shocks", "LCrateCushions$Shocks;", true)
  | _ => ("CrateCushions", "journey", "LCrateCushions$Journey;", true)
def t_Cc : Nat → FieldType := fun k => match k with
  | 0 => .object "CrateCushions$Goods"
  | 1 => .object "CrateCushions$Foams"
  | 2 => .object "CrateCushions$Packing"
  | 3 => .object "CrateCushions$Stock"
  | 4 => .object "CrateCushions$Air"
  | 5 => .object "CrateCushions$Shocks"
  | _ => .object "CrateCushions$Journey"
theorem n_Cc : ∀ a, a < 7 → ∀ b, b < 7 → a ≠ b → (F_Cc a).2.1 ≠ (F_Cc b).2.1 := by decide +kernel
theorem o_Cc : ∀ k, k < 7 → parseFieldDescriptor (F_Cc k).2.2.1 = some (t_Cc k) := by decide +kernel
theorem i_Cc : ∀ w ∈ u_ws R_Cc F_Cc 7, w ∈ WL := by decide +kernel
def F_Mo : u_T := fun k => match k with
  | 0 => ("CrateCushionsModel", "thrown", "I", false)
  | 1 => ("CrateCushionsModel", "objects", "I", false)
  | 2 => ("CrateCushionsModel", "sizes", "[I", true)
  | 3 => ("CrateCushionsModel", "grams", "[I", true)
  | 4 => ("CrateCushionsModel", "weak", "[Z", true)
  | 5 => ("CrateCushionsModel", "rows", "[I", true)
  | 6 => ("CrateCushionsModel", "thick", "[I", true)
  | 7 => ("CrateCushionsModel", "points", "[I", true)
  | 8 => ("CrateCushionsModel", "stresses", "[I", true)
  | 9 => ("CrateCushionsModel", "values", "[I", true)
  | 10 => ("CrateCushionsModel", "packed", "Z", false)
  | 11 => ("CrateCushionsModel", "ways", "[I", true)
  | 12 => ("CrateCushionsModel", "tried", "[I", true)
  | 13 => ("CrateCushionsModel", "gap", "I", false)
  | 14 => ("CrateCushionsModel", "crateLength", "I", false)
  | 15 => ("CrateCushionsModel", "crateWidth", "I", false)
  | 16 => ("CrateCushionsModel", "crateHeight", "I", false)
  | 17 => ("CrateCushionsModel", "parts", "[I", true)
  | 18 => ("CrateCushionsModel", "crates", "I", false)
  | 19 => ("CrateCushionsModel", "inner", "[I", true)
  | 20 => ("CrateCushionsModel", "taken", "[Z", true)
  | 21 => ("CrateCushionsModel", "hours", "I", false)
  | 22 => ("CrateCushionsModel", "insides", "[I", true)
  | 23 => ("CrateCushionsModel", "lag", "I", false)
  | 24 => ("CrateCushionsModel", "peak", "I", false)
  | 25 => ("CrateCushionsModel", "length", "I", false)
  | 26 => ("CrateCushionsModel", "limited", "Z", false)
  | 27 => ("CrateCushionsModel", "shocks", "I", false)
  | 28 => ("CrateCushionsModel", "told", "I", false)
  | 29 => ("CrateCushionsModel", "legs", "I", false)
  | _ => ("CrateCushionsModel", "drops", "[I", true)
def t_Mo : Nat → FieldType := fun k => match k with
  | 0 => .int
  | 1 => .int
  | 2 => .array .int
  | 3 => .array .int
  | 4 => .array .boolean
  | 5 => .array .int
  | 6 => .array .int
  | 7 => .array .int
  | 8 => .array .int
  | 9 => .array .int
  | 10 => .boolean
  | 11 => .array .int
  | 12 => .array .int
  | 13 => .int
  | 14 => .int
  | 15 => .int
  | 16 => .int
  | 17 => .array .int
  | 18 => .int
  | 19 => .array .int
  | 20 => .array .boolean
  | 21 => .int
  | 22 => .array .int
  | 23 => .int
  | 24 => .int
  | 25 => .int
  | 26 => .boolean
  | 27 => .int
  | 28 => .int
  | 29 => .int
  | _ => .array .int
theorem n_Mo : ∀ a, a < 31 → ∀ b, b < 31 → a ≠ b → (F_Mo a).2.1 ≠ (F_Mo b).2.1 := by decide +kernel
theorem o_Mo : ∀ k, k < 31 → parseFieldDescriptor (F_Mo k).2.2.1 = some (t_Mo k) := by decide +kernel
theorem i_Mo : ∀ w ∈ u_ws R_Mo F_Mo 31, w ∈ WL := by decide +kernel
abbrev vwCl : List vw_C := [(R_Ai, F_Ai, 3), (R_Fo, F_Fo, 5), (R_Go, F_Go, 6), (R_Jo, F_Jo, 2), (R_Pk, F_Pk, 8), (R_Sh, F_Sh, 4), (R_Sk, F_Sk, 5), (R_Cc, F_Cc, 7), (R_Mo, F_Mo, 31)]
abbrev b_Cc_init : ByteArray := prog_1_method_1_code
def y_Cc_init : MethodName := ⟨R_Cc, "<init>", "()V"⟩
abbrev b_Go_init : ByteArray := prog_4_method_1_code
def y_Go_init : MethodName := ⟨R_Go, "<init>", "()V"⟩
abbrev b_Fo_init : ByteArray := prog_3_method_1_code
def y_Fo_init : MethodName := ⟨R_Fo, "<init>", "()V"⟩
abbrev b_Pk_init : ByteArray := prog_6_method_1_code
def y_Pk_init : MethodName := ⟨R_Pk, "<init>", "()V"⟩
abbrev b_Sk_init : ByteArray := prog_8_method_1_code
def y_Sk_init : MethodName := ⟨R_Sk, "<init>", "()V"⟩
abbrev b_Ai_init : ByteArray := prog_2_method_1_code
def y_Ai_init : MethodName := ⟨R_Ai, "<init>", "()V"⟩
abbrev b_Sh_init : ByteArray := prog_7_method_1_code
def y_Sh_init : MethodName := ⟨R_Sh, "<init>", "()V"⟩
abbrev b_Jo_init : ByteArray := prog_5_method_1_code
def y_Jo_init : MethodName := ⟨R_Jo, "<init>", "()V"⟩
abbrev b_La_object : ByteArray := method_3_code
def y_La_object : MethodName := ⟨R_La, "object", "(LCrateCushions;IIII[J)I"⟩
abbrev b_Cc_object : ByteArray := prog_1_method_2_code
def y_Cc_object : MethodName := ⟨R_Cc, "object", "(IIII)I"⟩
abbrev b_Go_add : ByteArray := prog_4_method_2_code
def y_Go_add : MethodName := ⟨R_Go, "add", "(IIII)I"⟩
abbrev b_Cc_requireRoom : ByteArray := prog_1_method_26_code
def y_Cc_requireRoom : MethodName := ⟨R_Cc, "requireRoom", "(II)V"⟩
abbrev b_Cc_requireRange : ByteArray := prog_1_method_25_code
def y_Cc_requireRange : MethodName := ⟨R_Cc, "requireRange", "(III)V"⟩
abbrev b_La_weak : ByteArray := method_4_code
def y_La_weak : MethodName := ⟨R_La, "weak", "(LCrateCushions;IIZ[J)I"⟩
abbrev b_Cc_weak : ByteArray := prog_1_method_3_code
def y_Cc_weak : MethodName := ⟨R_Cc, "weak", "(IIZ)Z"⟩
abbrev b_Go_setWeak : ByteArray := prog_4_method_3_code
def y_Go_setWeak : MethodName := ⟨R_Go, "setWeak", "(IIZ)Z"⟩
abbrev b_Cc_requireIndex : ByteArray := prog_1_method_24_code
def y_Cc_requireIndex : MethodName := ⟨R_Cc, "requireIndex", "(II)V"⟩
abbrev b_La_foam : ByteArray := method_5_code
def y_La_foam : MethodName := ⟨R_La, "foam", "(LCrateCushions;II[J)I"⟩
abbrev b_Cc_foam : ByteArray := prog_1_method_4_code
def y_Cc_foam : MethodName := ⟨R_Cc, "foam", "(II)I"⟩
abbrev b_Fo_addRow : ByteArray := prog_3_method_2_code
def y_Fo_addRow : MethodName := ⟨R_Fo, "addRow", "(II)I"⟩
abbrev b_La_point : ByteArray := method_6_code
def y_La_point : MethodName := ⟨R_La, "point", "(LCrateCushions;IIII[J)I"⟩
abbrev b_Cc_point : ByteArray := prog_1_method_5_code
def y_Cc_point : MethodName := ⟨R_Cc, "point", "(IIII)I"⟩
abbrev b_Fo_addPoint : ByteArray := prog_3_method_3_code
def y_Fo_addPoint : MethodName := ⟨R_Fo, "addPoint", "(IIII)I"⟩
abbrev b_Fo_placeOf : ByteArray := prog_3_method_6_code
def y_Fo_placeOf : MethodName := ⟨R_Fo, "placeOf", "(II)I"⟩
abbrev b_La_value : ByteArray := method_7_code
def y_La_value : MethodName := ⟨R_La, "value", "(LCrateCushions;III[J)I"⟩
abbrev b_Cc_value : ByteArray := prog_1_method_6_code
def y_Cc_value : MethodName := ⟨R_Cc, "value", "(III)I"⟩
abbrev b_Fo_valueAt : ByteArray := prog_3_method_4_code
def y_Fo_valueAt : MethodName := ⟨R_Fo, "valueAt", "(III)I"⟩
abbrev b_Fo_valueBetween : ByteArray := prog_3_method_7_code
def y_Fo_valueBetween : MethodName := ⟨R_Fo, "valueBetween", "(III)I"⟩
abbrev b_Ma_floorDiv : ByteArray := prog_16_method_47_code
def y_Ma_floorDiv : MethodName := ⟨R_Ma, "floorDiv", "(II)I"⟩
abbrev b_La_thickness : ByteArray := method_8_code
def y_La_thickness : MethodName := ⟨R_La, "thickness", "(LCrateCushions;III[J)I"⟩
abbrev b_Cc_thickness : ByteArray := prog_1_method_7_code
def y_Cc_thickness : MethodName := ⟨R_Cc, "thickness", "(III)I"⟩
abbrev b_Fo_leastThickness : ByteArray := prog_3_method_5_code
def y_Fo_leastThickness : MethodName := ⟨R_Fo, "leastThickness", "(III)I"⟩
abbrev b_La_pack : ByteArray := method_9_code
def y_La_pack : MethodName := ⟨R_La, "pack", "(LCrateCushions;II[J)I"⟩
abbrev b_Cc_pack : ByteArray := prog_1_method_8_code
def y_Cc_pack : MethodName := ⟨R_Cc, "pack", "(II)I"⟩
abbrev b_Pk_packSet : ByteArray := prog_6_method_2_code
def y_Pk_packSet : MethodName := ⟨R_Pk, "packSet", "(LCrateCushions$Goods;II)I"⟩
abbrev b_Pk_isIn : ByteArray := prog_6_method_6_code
def y_Pk_isIn : MethodName := ⟨R_Pk, "isIn", "(II)Z"⟩
abbrev b_Go_mayStandAnyhow : ByteArray := prog_4_method_5_code
def y_Go_mayStandAnyhow : MethodName := ⟨R_Go, "mayStandAnyhow", "(I)Z"⟩
abbrev b_Pk_findLeast : ByteArray := prog_6_method_7_code
def y_Pk_findLeast : MethodName := ⟨R_Pk, "findLeast", "(LCrateCushions$Goods;)V"⟩
abbrev b_Pk_tryWithin : ByteArray := prog_6_method_8_code
def y_Pk_tryWithin : MethodName := ⟨R_Pk, "tryWithin", "(LCrateCushions$Goods;II)V"⟩
abbrev b_Go_shortestWay : ByteArray := prog_4_method_7_code
def y_Go_shortestWay : MethodName := ⟨R_Go, "shortestWay", "(III)I"⟩
abbrev b_Go_sizeOf : ByteArray := prog_4_method_6_code
def y_Go_sizeOf : MethodName := ⟨R_Go, "sizeOf", "(III)I"⟩
abbrev b_Go_mayStand : ByteArray := prog_4_method_4_code
def y_Go_mayStand : MethodName := ⟨R_Go, "mayStand", "(II)Z"⟩
abbrev b_Pk_triedIsLower : ByteArray := prog_6_method_9_code
def y_Pk_triedIsLower : MethodName := ⟨R_Pk, "triedIsLower", "()Z"⟩
abbrev b_Pk_keep : ByteArray := prog_6_method_10_code
def y_Pk_keep : MethodName := ⟨R_Pk, "keep", "(III)V"⟩
abbrev b_Pk_placeInRow : ByteArray := prog_6_method_11_code
def y_Pk_placeInRow : MethodName := ⟨R_Pk, "placeInRow", "(LCrateCushions$Goods;)V"⟩
abbrev b_In_bitCount : ByteArray := prog_15_method_49_code
def y_In_bitCount : MethodName := ⟨R_In, "bitCount", "(I)I"⟩
abbrev b_La_size : ByteArray := method_10_code
def y_La_size : MethodName := ⟨R_La, "size", "(LCrateCushions;I[J)I"⟩
abbrev b_Cc_size : ByteArray := prog_1_method_9_code
def y_Cc_size : MethodName := ⟨R_Cc, "size", "(I)I"⟩
abbrev b_Pk_sizeAlong : ByteArray := prog_6_method_3_code
def y_Pk_sizeAlong : MethodName := ⟨R_Pk, "sizeAlong", "(I)I"⟩
abbrev b_Pk_requirePacked : ByteArray := prog_6_method_5_code
def y_Pk_requirePacked : MethodName := ⟨R_Pk, "requirePacked", "()V"⟩
abbrev b_La_at : ByteArray := method_11_code
def y_La_at : MethodName := ⟨R_La, "at", "(LCrateCushions;II[J)I"⟩
abbrev b_Cc_at : ByteArray := prog_1_method_10_code
def y_Cc_at : MethodName := ⟨R_Cc, "at", "(II)I"⟩
abbrev b_Pk_tell : ByteArray := prog_6_method_4_code
def y_Pk_tell : MethodName := ⟨R_Pk, "tell", "(II)I"⟩
abbrev b_La_crate : ByteArray := method_12_code
def y_La_crate : MethodName := ⟨R_La, "crate", "(LCrateCushions;III[J)I"⟩
abbrev b_Cc_crate : ByteArray := prog_1_method_11_code
def y_Cc_crate : MethodName := ⟨R_Cc, "crate", "(III)I"⟩
abbrev b_Sk_add : ByteArray := prog_8_method_2_code
def y_Sk_add : MethodName := ⟨R_Sk, "add", "(III)I"⟩
abbrev b_La_match : ByteArray := method_13_code
def y_La_match : MethodName := ⟨R_La, "match", "(LCrateCushions;[J)I"⟩
abbrev b_Cc_match : ByteArray := prog_1_method_12_code
def y_Cc_match : MethodName := ⟨R_Cc, "match", "()I"⟩
abbrev b_Sk_takeFor : ByteArray := prog_8_method_3_code
def y_Sk_takeFor : MethodName := ⟨R_Sk, "takeFor", "(III)I"⟩
abbrev b_Sk_hasRoom : ByteArray := prog_8_method_6_code
def y_Sk_hasRoom : MethodName := ⟨R_Sk, "hasRoom", "(IIII)Z"⟩
abbrev b_La_free : ByteArray := method_14_code
def y_La_free : MethodName := ⟨R_La, "free", "(LCrateCushions;I[J)I"⟩
abbrev b_Cc_free : ByteArray := prog_1_method_13_code
def y_Cc_free : MethodName := ⟨R_Cc, "free", "(I)Z"⟩
abbrev b_Sk_release : ByteArray := prog_8_method_4_code
def y_Sk_release : MethodName := ⟨R_Sk, "release", "(I)Z"⟩
abbrev b_La_split : ByteArray := method_15_code
def y_La_split : MethodName := ⟨R_La, "split", "(LCrateCushions;I[J)I"⟩
abbrev b_Cc_split : ByteArray := prog_1_method_14_code
def y_Cc_split : MethodName := ⟨R_Cc, "split", "(I)I"⟩
abbrev b_Go_leastCrates : ByteArray := prog_4_method_8_code
def y_Go_leastCrates : MethodName := ⟨R_Go, "leastCrates", "(I)I"⟩
abbrev b_Go_partSet : ByteArray := prog_4_method_9_code
def y_Go_partSet : MethodName := ⟨R_Go, "partSet", "(II)V"⟩
abbrev b_La_lag : ByteArray := method_16_code
def y_La_lag : MethodName := ⟨R_La, "lag", "(LCrateCushions;I[J)I"⟩
abbrev b_Cc_lag : ByteArray := prog_1_method_15_code
def y_Cc_lag : MethodName := ⟨R_Cc, "lag", "(I)I"⟩
abbrev b_Ai_setLag : ByteArray := prog_2_method_2_code
def y_Ai_setLag : MethodName := ⟨R_Ai, "setLag", "(I)I"⟩
abbrev b_La_climate : ByteArray := method_17_code
def y_La_climate : MethodName := ⟨R_La, "climate", "(LCrateCushions;I[J)I"⟩
abbrev b_Cc_climate : ByteArray := prog_1_method_16_code
def y_Cc_climate : MethodName := ⟨R_Cc, "climate", "(I)I"⟩
abbrev b_Ai_nextHour : ByteArray := prog_2_method_3_code
def y_Ai_nextHour : MethodName := ⟨R_Ai, "nextHour", "(I)I"⟩
abbrev b_Ma_max : ByteArray := prog_16_method_65_code
def y_Ma_max : MethodName := ⟨R_Ma, "max", "(II)I"⟩
abbrev b_La_inside : ByteArray := method_18_code
def y_La_inside : MethodName := ⟨R_La, "inside", "(LCrateCushions;I[J)I"⟩
abbrev b_Cc_inside : ByteArray := prog_1_method_17_code
def y_Cc_inside : MethodName := ⟨R_Cc, "inside", "(I)I"⟩
abbrev b_Ai_afterHour : ByteArray := prog_2_method_4_code
def y_Ai_afterHour : MethodName := ⟨R_Ai, "afterHour", "(I)I"⟩
abbrev b_La_steady : ByteArray := method_19_code
def y_La_steady : MethodName := ⟨R_La, "steady", "(LCrateCushions;II[J)I"⟩
abbrev b_Cc_steady : ByteArray := prog_1_method_18_code
def y_Cc_steady : MethodName := ⟨R_Cc, "steady", "(II)I"⟩
abbrev b_Ai_longestWithin : ByteArray := prog_2_method_5_code
def y_Ai_longestWithin : MethodName := ⟨R_Ai, "longestWithin", "(II)I"⟩
abbrev b_La_limit : ByteArray := method_20_code
def y_La_limit : MethodName := ⟨R_La, "limit", "(LCrateCushions;II)I"⟩
abbrev b_Cc_limit : ByteArray := prog_1_method_19_code
def y_Cc_limit : MethodName := ⟨R_Cc, "limit", "(II)V"⟩
abbrev b_Sh_allow : ByteArray := prog_7_method_2_code
def y_Sh_allow : MethodName := ⟨R_Sh, "allow", "(II)V"⟩
abbrev b_La_shock : ByteArray := method_21_code
def y_La_shock : MethodName := ⟨R_La, "shock", "(LCrateCushions;II[J)I"⟩
abbrev b_Cc_shock : ByteArray := prog_1_method_20_code
def y_Cc_shock : MethodName := ⟨R_Cc, "shock", "(II)Z"⟩
abbrev b_Sh_add : ByteArray := prog_7_method_3_code
def y_Sh_add : MethodName := ⟨R_Sh, "add", "(II)Z"⟩
abbrev b_La_route : ByteArray := method_22_code
def y_La_route : MethodName := ⟨R_La, "route", "(LCrateCushions;II[J)I"⟩
abbrev b_Cc_route : ByteArray := prog_1_method_21_code
def y_Cc_route : MethodName := ⟨R_Cc, "route", "(II)I"⟩
abbrev b_Jo_plan : ByteArray := prog_5_method_2_code
def y_Jo_plan : MethodName := ⟨R_Jo, "plan", "(II)I"⟩
abbrev b_La_drop : ByteArray := method_23_code
def y_La_drop : MethodName := ⟨R_La, "drop", "(LCrateCushions;I[J)I"⟩
abbrev b_Cc_drop : ByteArray := prog_1_method_22_code
def y_Cc_drop : MethodName := ⟨R_Cc, "drop", "(I)I"⟩
abbrev b_Jo_dropOf : ByteArray := prog_5_method_3_code
def y_Jo_dropOf : MethodName := ⟨R_Jo, "dropOf", "(I)I"⟩
abbrev b_La_count : ByteArray := method_24_code
def y_La_count : MethodName := ⟨R_La, "count", "(LCrateCushions;I[J)I"⟩
abbrev b_Cc_count : ByteArray := prog_1_method_23_code
def y_Cc_count : MethodName := ⟨R_Cc, "count", "(I)I"⟩
abbrev b_Sk_takenCount : ByteArray := prog_8_method_5_code
def y_Sk_takenCount : MethodName := ⟨R_Sk, "takenCount", "()I"⟩
abbrev b_Mo_init : ByteArray := prog_10_method_1_code
def y_Mo_init : MethodName := ⟨R_Mo, "<init>", "()V"⟩
abbrev b_Mo_thrown : ByteArray := prog_10_method_2_code
def y_Mo_thrown : MethodName := ⟨R_Mo, "thrown", "()I"⟩
abbrev b_Mo_object : ByteArray := prog_10_method_6_code
def y_Mo_object : MethodName := ⟨R_Mo, "object", "(IIII)I"⟩
abbrev b_Mo_within : ByteArray := prog_10_method_4_code
def y_Mo_within : MethodName := ⟨R_Mo, "within", "(III)Z"⟩
abbrev b_Mo_goes : ByteArray := prog_10_method_3_code
def y_Mo_goes : MethodName := ⟨R_Mo, "goes", "(ZZZ)Z"⟩
abbrev b_Mo_weak : ByteArray := prog_10_method_7_code
def y_Mo_weak : MethodName := ⟨R_Mo, "weak", "(IIZ)Z"⟩
abbrev b_Mo_isObject : ByteArray := prog_10_method_5_code
def y_Mo_isObject : MethodName := ⟨R_Mo, "isObject", "(I)Z"⟩
abbrev b_Mo_foam : ByteArray := prog_10_method_8_code
def y_Mo_foam : MethodName := ⟨R_Mo, "foam", "(II)I"⟩
abbrev b_Mo_point : ByteArray := prog_10_method_10_code
def y_Mo_point : MethodName := ⟨R_Mo, "point", "(IIII)I"⟩
abbrev b_Mo_isRow : ByteArray := prog_10_method_9_code
def y_Mo_isRow : MethodName := ⟨R_Mo, "isRow", "(II)Z"⟩
abbrev b_Mo_value : ByteArray := prog_10_method_13_code
def y_Mo_value : MethodName := ⟨R_Mo, "value", "(III)I"⟩
abbrev b_Mo_valueOf : ByteArray := prog_10_method_12_code
def y_Mo_valueOf : MethodName := ⟨R_Mo, "valueOf", "(II)I"⟩
abbrev b_Mo_up : ByteArray := prog_10_method_11_code
def y_Mo_up : MethodName := ⟨R_Mo, "up", "(II)I"⟩
abbrev b_Mo_thickness : ByteArray := prog_10_method_14_code
def y_Mo_thickness : MethodName := ⟨R_Mo, "thickness", "(III)I"⟩
abbrev b_Mo_pack : ByteArray := prog_10_method_21_code
def y_Mo_pack : MethodName := ⟨R_Mo, "pack", "(II)I"⟩
abbrev b_Mo_isIn : ByteArray := prog_10_method_16_code
def y_Mo_isIn : MethodName := ⟨R_Mo, "isIn", "(II)Z"⟩
abbrev b_Mo_turn : ByteArray := prog_10_method_20_code
def y_Mo_turn : MethodName := ⟨R_Mo, "turn", "(II)V"⟩
abbrev b_Mo_stands : ByteArray := prog_10_method_19_code
def y_Mo_stands : MethodName := ⟨R_Mo, "stands", "(I)Z"⟩
abbrev b_Mo_lengthOf : ByteArray := prog_10_method_17_code
def y_Mo_lengthOf : MethodName := ⟨R_Mo, "lengthOf", "(II)I"⟩
abbrev b_Mo_along : ByteArray := prog_10_method_15_code
def y_Mo_along : MethodName := ⟨R_Mo, "along", "(III)I"⟩
abbrev b_Mo_widest : ByteArray := prog_10_method_18_code
def y_Mo_widest : MethodName := ⟨R_Mo, "widest", "(III)I"⟩
abbrev b_Mo_size : ByteArray := prog_10_method_22_code
def y_Mo_size : MethodName := ⟨R_Mo, "size", "(I)I"⟩
abbrev b_Mo_at : ByteArray := prog_10_method_23_code
def y_Mo_at : MethodName := ⟨R_Mo, "at", "(II)I"⟩
abbrev b_Mo_crate : ByteArray := prog_10_method_24_code
def y_Mo_crate : MethodName := ⟨R_Mo, "crate", "(III)I"⟩
abbrev b_Mo_match : ByteArray := prog_10_method_26_code
def y_Mo_match : MethodName := ⟨R_Mo, "match", "()I"⟩
abbrev b_Mo_hasRoom : ByteArray := prog_10_method_25_code
def y_Mo_hasRoom : MethodName := ⟨R_Mo, "hasRoom", "(I)Z"⟩
abbrev b_Mo_free : ByteArray := prog_10_method_27_code
def y_Mo_free : MethodName := ⟨R_Mo, "free", "(I)Z"⟩
abbrev b_Mo_split : ByteArray := prog_10_method_29_code
def y_Mo_split : MethodName := ⟨R_Mo, "split", "(I)I"⟩
abbrev b_Mo_weight : ByteArray := prog_10_method_28_code
def y_Mo_weight : MethodName := ⟨R_Mo, "weight", "(I)I"⟩
abbrev b_Mo_lag : ByteArray := prog_10_method_30_code
def y_Mo_lag : MethodName := ⟨R_Mo, "lag", "(I)I"⟩
abbrev b_Mo_climate : ByteArray := prog_10_method_31_code
def y_Mo_climate : MethodName := ⟨R_Mo, "climate", "(I)I"⟩
abbrev b_Mo_inside : ByteArray := prog_10_method_32_code
def y_Mo_inside : MethodName := ⟨R_Mo, "inside", "(I)I"⟩
abbrev b_Mo_steady : ByteArray := prog_10_method_33_code
def y_Mo_steady : MethodName := ⟨R_Mo, "steady", "(II)I"⟩
abbrev b_Mo_limit : ByteArray := prog_10_method_34_code
def y_Mo_limit : MethodName := ⟨R_Mo, "limit", "(II)V"⟩
abbrev b_Mo_shock : ByteArray := prog_10_method_35_code
def y_Mo_shock : MethodName := ⟨R_Mo, "shock", "(II)Z"⟩
abbrev b_Mo_route : ByteArray := prog_10_method_36_code
def y_Mo_route : MethodName := ⟨R_Mo, "route", "(II)I"⟩
abbrev b_Mo_drop : ByteArray := prog_10_method_37_code
def y_Mo_drop : MethodName := ⟨R_Mo, "drop", "(I)I"⟩
abbrev b_Mo_count : ByteArray := prog_10_method_38_code
def y_Mo_count : MethodName := ⟨R_Mo, "count", "(I)I"⟩
end
section
set_option maxRecDepth 20000 in
theorem m_0 : Cond.selects "java/lang/Throwable" ⟨"java/lang/Throwable", "fillInStackTrace", "(I)Ljava/lang/Throwable;"⟩ ⟨"java/lang/Throwable", "fillInStackTrace", "(I)Ljava/lang/Throwable;"⟩ ∈ WL := List.mem_filter.mpr ⟨List.mem_of_getElem? (i := 0) rfl, rfl⟩
set_option maxRecDepth 20000 in
theorem m_1 : Cond.selects R_Fo y_Fo_placeOf y_Fo_placeOf ∈ WL := List.mem_filter.mpr ⟨List.mem_of_getElem? (i := 1) rfl, rfl⟩
set_option maxRecDepth 20000 in
theorem m_2 : Cond.selects R_Fo y_Fo_valueBetween y_Fo_valueBetween ∈ WL := List.mem_filter.mpr ⟨List.mem_of_getElem? (i := 2) rfl, rfl⟩
set_option maxRecDepth 20000 in
theorem m_3 : Cond.selects R_Pk y_Pk_findLeast y_Pk_findLeast ∈ WL := List.mem_filter.mpr ⟨List.mem_of_getElem? (i := 3) rfl, rfl⟩
set_option maxRecDepth 20000 in
theorem m_4 : Cond.selects R_Pk y_Pk_tryWithin y_Pk_tryWithin ∈ WL := List.mem_filter.mpr ⟨List.mem_of_getElem? (i := 4) rfl, rfl⟩
set_option maxRecDepth 20000 in
theorem m_5 : Cond.selects R_Pk y_Pk_triedIsLower y_Pk_triedIsLower ∈ WL := List.mem_filter.mpr ⟨List.mem_of_getElem? (i := 5) rfl, rfl⟩
set_option maxRecDepth 20000 in
theorem m_6 : Cond.selects R_Pk y_Pk_keep y_Pk_keep ∈ WL := List.mem_filter.mpr ⟨List.mem_of_getElem? (i := 6) rfl, rfl⟩
set_option maxRecDepth 20000 in
theorem m_7 : Cond.selects R_Pk y_Pk_placeInRow y_Pk_placeInRow ∈ WL := List.mem_filter.mpr ⟨List.mem_of_getElem? (i := 7) rfl, rfl⟩
set_option maxRecDepth 20000 in
theorem m_8 : Cond.selects R_Pk y_Pk_requirePacked y_Pk_requirePacked ∈ WL := List.mem_filter.mpr ⟨List.mem_of_getElem? (i := 8) rfl, rfl⟩
set_option maxRecDepth 20000 in
theorem m_9 : Cond.selects R_Sk y_Sk_hasRoom y_Sk_hasRoom ∈ WL := List.mem_filter.mpr ⟨List.mem_of_getElem? (i := 9) rfl, rfl⟩
set_option maxRecDepth 20000 in
theorem m_10 : Cond.selects R_Go y_Go_partSet y_Go_partSet ∈ WL := List.mem_filter.mpr ⟨List.mem_of_getElem? (i := 10) rfl, rfl⟩
set_option maxRecDepth 20000 in
theorem m_11 : Cond.selects R_Mo y_Mo_goes y_Mo_goes ∈ WL := List.mem_filter.mpr ⟨List.mem_of_getElem? (i := 11) rfl, rfl⟩
set_option maxRecDepth 20000 in
theorem m_12 : Cond.selects R_Mo y_Mo_isObject y_Mo_isObject ∈ WL := List.mem_filter.mpr ⟨List.mem_of_getElem? (i := 12) rfl, rfl⟩
set_option maxRecDepth 20000 in
theorem m_13 : Cond.selects R_Mo y_Mo_isRow y_Mo_isRow ∈ WL := List.mem_filter.mpr ⟨List.mem_of_getElem? (i := 13) rfl, rfl⟩
set_option maxRecDepth 20000 in
theorem m_14 : Cond.selects R_Mo y_Mo_valueOf y_Mo_valueOf ∈ WL := List.mem_filter.mpr ⟨List.mem_of_getElem? (i := 14) rfl, rfl⟩
set_option maxRecDepth 20000 in
theorem m_15 : Cond.selects R_Mo y_Mo_turn y_Mo_turn ∈ WL := List.mem_filter.mpr ⟨List.mem_of_getElem? (i := 15) rfl, rfl⟩
set_option maxRecDepth 20000 in
theorem m_16 : Cond.selects R_Mo y_Mo_stands y_Mo_stands ∈ WL := List.mem_filter.mpr ⟨List.mem_of_getElem? (i := 16) rfl, rfl⟩
set_option maxRecDepth 20000 in
theorem m_17 : Cond.selects R_Mo y_Mo_lengthOf y_Mo_lengthOf ∈ WL := List.mem_filter.mpr ⟨List.mem_of_getElem? (i := 17) rfl, rfl⟩
set_option maxRecDepth 20000 in
theorem m_18 : Cond.selects R_Mo y_Mo_along y_Mo_along ∈ WL := List.mem_filter.mpr ⟨List.mem_of_getElem? (i := 18) rfl, rfl⟩
set_option maxRecDepth 20000 in
theorem m_19 : Cond.selects R_Mo y_Mo_widest y_Mo_widest ∈ WL := List.mem_filter.mpr ⟨List.mem_of_getElem? (i := 19) rfl, rfl⟩
set_option maxRecDepth 20000 in
theorem m_20 : Cond.selects R_Mo y_Mo_hasRoom y_Mo_hasRoom ∈ WL := List.mem_filter.mpr ⟨List.mem_of_getElem? (i := 20) rfl, rfl⟩
set_option maxRecDepth 20000 in
theorem m_21 : Cond.selects R_Mo y_Mo_weight y_Mo_weight ∈ WL := List.mem_filter.mpr ⟨List.mem_of_getElem? (i := 21) rfl, rfl⟩
set_option maxRecDepth 20000 in
theorem m_22 : Cond.initialized R_La ∈ WL := List.mem_filter.mpr ⟨List.mem_of_getElem? (i := 22) rfl, rfl⟩
set_option maxRecDepth 20000 in
theorem m_23 : Cond.initialized R_Cc ∈ WL := List.mem_filter.mpr ⟨List.mem_of_getElem? (i := 23) rfl, rfl⟩
set_option maxRecDepth 20000 in
theorem m_24 : Cond.initialized R_Go ∈ WL := List.mem_filter.mpr ⟨List.mem_of_getElem? (i := 24) rfl, rfl⟩
set_option maxRecDepth 20000 in
theorem m_25 : Cond.initialized R_Fo ∈ WL := List.mem_filter.mpr ⟨List.mem_of_getElem? (i := 25) rfl, rfl⟩
set_option maxRecDepth 20000 in
theorem m_26 : Cond.initialized R_Pk ∈ WL := List.mem_filter.mpr ⟨List.mem_of_getElem? (i := 26) rfl, rfl⟩
set_option maxRecDepth 20000 in
theorem m_27 : Cond.initialized R_Sk ∈ WL := List.mem_filter.mpr ⟨List.mem_of_getElem? (i := 27) rfl, rfl⟩
set_option maxRecDepth 20000 in
theorem m_28 : Cond.initialized R_Ai ∈ WL := List.mem_filter.mpr ⟨List.mem_of_getElem? (i := 28) rfl, rfl⟩
set_option maxRecDepth 20000 in
theorem m_29 : Cond.initialized R_Sh ∈ WL := List.mem_filter.mpr ⟨List.mem_of_getElem? (i := 29) rfl, rfl⟩
set_option maxRecDepth 20000 in
theorem m_30 : Cond.initialized R_Jo ∈ WL := List.mem_filter.mpr ⟨List.mem_of_getElem? (i := 30) rfl, rfl⟩
set_option maxRecDepth 20000 in
theorem m_31 : Cond.initialized R_Mo ∈ WL := List.mem_filter.mpr ⟨List.mem_of_getElem? (i := 31) rfl, rfl⟩
set_option maxRecDepth 20000 in
theorem m_32 : Cond.initialized "java/lang/Throwable" ∈ WL := List.mem_filter.mpr ⟨List.mem_of_getElem? (i := 32) rfl, rfl⟩
set_option maxRecDepth 20000 in
theorem m_33 : Cond.initialized "java/lang/Exception" ∈ WL := List.mem_filter.mpr ⟨List.mem_of_getElem? (i := 33) rfl, rfl⟩
set_option maxRecDepth 20000 in
theorem m_34 : Cond.initialized "java/lang/RuntimeException" ∈ WL := List.mem_filter.mpr ⟨List.mem_of_getElem? (i := 34) rfl, rfl⟩
set_option maxRecDepth 20000 in
theorem m_35 : Cond.initialized "java/lang/IllegalStateException" ∈ WL := List.mem_filter.mpr ⟨List.mem_of_getElem? (i := 35) rfl, rfl⟩
set_option maxRecDepth 20000 in
theorem m_36 : Cond.initialized "java/lang/IllegalArgumentException" ∈ WL := List.mem_filter.mpr ⟨List.mem_of_getElem? (i := 36) rfl, rfl⟩
set_option maxRecDepth 20000 in
theorem m_37 : Cond.initialized "java/lang/IndexOutOfBoundsException" ∈ WL := List.mem_filter.mpr ⟨List.mem_of_getElem? (i := 37) rfl, rfl⟩
set_option maxRecDepth 20000 in
theorem m_38 : Cond.initialized R_Ma ∈ WL := List.mem_filter.mpr ⟨List.mem_of_getElem? (i := 38) rfl, rfl⟩
set_option maxRecDepth 20000 in
theorem m_39 : Cond.initialized "java/lang/System" ∈ WL := List.mem_filter.mpr ⟨List.mem_of_getElem? (i := 39) rfl, rfl⟩
set_option maxRecDepth 20000 in
theorem m_40 : Cond.initialized R_In ∈ WL := List.mem_filter.mpr ⟨List.mem_of_getElem? (i := 40) rfl, rfl⟩
set_option maxRecDepth 20000 in
theorem m_41 : Cond.classLink R_La 8 R_Cc ∈ WL := List.mem_filter.mpr ⟨List.mem_of_getElem? (i := 41) rfl, rfl⟩
set_option maxRecDepth 20000 in
theorem m_42 : Cond.instantiable R_Cc 7 ∈ WL := List.mem_filter.mpr ⟨List.mem_of_getElem? (i := 42) rfl, rfl⟩
set_option maxRecDepth 20000 in
theorem m_43 : Cond.methodLink R_La 90 y_Cc_init ∈ WL := List.mem_filter.mpr ⟨List.mem_of_getElem? (i := 43) rfl, rfl⟩
set_option maxRecDepth 20000 in
theorem m_44 : Cond.instanceMethod y_Cc_init ∈ WL := List.mem_filter.mpr ⟨List.mem_of_getElem? (i := 44) rfl, rfl⟩
set_option maxRecDepth 20000 in
theorem m_45 : Cond.code y_Cc_init b_Cc_init 1 (Option.none : Option Jvm.ClassFile.FieldType) ∈ WL := List.mem_filter.mpr ⟨List.mem_of_getElem? (i := 45) rfl, rfl⟩
set_option maxRecDepth 20000 in
theorem m_46 : Cond.methodLink R_Cc 1 ⟨"java/lang/Object", "<init>", "()V"⟩ ∈ WL := List.mem_filter.mpr ⟨List.mem_of_getElem? (i := 46) rfl, rfl⟩
set_option maxRecDepth 20000 in
theorem m_47 : Cond.instanceMethod ⟨"java/lang/Object", "<init>", "()V"⟩ ∈ WL := List.mem_filter.mpr ⟨List.mem_of_getElem? (i := 47) rfl, rfl⟩
set_option maxRecDepth 20000 in
theorem m_49 : Cond.classLink R_Cc 7 R_Go ∈ WL := List.mem_filter.mpr ⟨List.mem_of_getElem? (i := 49) rfl, rfl⟩
set_option maxRecDepth 20000 in
theorem m_50 : Cond.instantiable R_Go 6 ∈ WL := List.mem_filter.mpr ⟨List.mem_of_getElem? (i := 50) rfl, rfl⟩
set_option maxRecDepth 20000 in
theorem m_51 : Cond.methodLink R_Cc 9 y_Go_init ∈ WL := List.mem_filter.mpr ⟨List.mem_of_getElem? (i := 51) rfl, rfl⟩
set_option maxRecDepth 20000 in
theorem m_52 : Cond.instanceMethod y_Go_init ∈ WL := List.mem_filter.mpr ⟨List.mem_of_getElem? (i := 52) rfl, rfl⟩
set_option maxRecDepth 20000 in
theorem m_53 : Cond.code y_Go_init b_Go_init 1 (Option.none : Option Jvm.ClassFile.FieldType) ∈ WL := List.mem_filter.mpr ⟨List.mem_of_getElem? (i := 53) rfl, rfl⟩
set_option maxRecDepth 20000 in
theorem m_54 : Cond.methodLink R_Go 3 ⟨"java/lang/Object", "<init>", "()V"⟩ ∈ WL := List.mem_filter.mpr ⟨List.mem_of_getElem? (i := 54) rfl, rfl⟩
set_option maxRecDepth 20000 in
theorem m_55 : Cond.fieldLink R_Go 9 R_Go "sizes" "[I" ∈ WL := List.mem_filter.mpr ⟨List.mem_of_getElem? (i := 55) rfl, rfl⟩
set_option maxRecDepth 20000 in
theorem m_57 : Cond.fieldLink R_Go 15 R_Go "grams" "[I" ∈ WL := List.mem_filter.mpr ⟨List.mem_of_getElem? (i := 57) rfl, rfl⟩
set_option maxRecDepth 20000 in
theorem m_58 : Cond.fieldLink R_Go 18 R_Go "weakSides" "[I" ∈ WL := List.mem_filter.mpr ⟨List.mem_of_getElem? (i := 58) rfl, rfl⟩
set_option maxRecDepth 20000 in
theorem m_59 : Cond.fieldLink R_Go 21 R_Go "cratesOfSet" "[I" ∈ WL := List.mem_filter.mpr ⟨List.mem_of_getElem? (i := 59) rfl, rfl⟩
set_option maxRecDepth 20000 in
theorem m_60 : Cond.fieldLink R_Go 24 R_Go "loadOfSet" "[I" ∈ WL := List.mem_filter.mpr ⟨List.mem_of_getElem? (i := 60) rfl, rfl⟩
set_option maxRecDepth 20000 in
theorem m_61 : Cond.fieldLink R_Go 27 R_Go "count" "I" ∈ WL := List.mem_filter.mpr ⟨List.mem_of_getElem? (i := 61) rfl, rfl⟩
set_option maxRecDepth 20000 in
theorem m_77 : Cond.arrayClass FieldType.int ∈ WL := List.mem_filter.mpr ⟨List.mem_of_getElem? (i := 77) rfl, rfl⟩
set_option maxRecDepth 20000 in
theorem m_78 : Cond.classLink R_Cc 16 R_Fo ∈ WL := List.mem_filter.mpr ⟨List.mem_of_getElem? (i := 78) rfl, rfl⟩
set_option maxRecDepth 20000 in
theorem m_79 : Cond.instantiable R_Fo 5 ∈ WL := List.mem_filter.mpr ⟨List.mem_of_getElem? (i := 79) rfl, rfl⟩
set_option maxRecDepth 20000 in
theorem m_80 : Cond.methodLink R_Cc 18 y_Fo_init ∈ WL := List.mem_filter.mpr ⟨List.mem_of_getElem? (i := 80) rfl, rfl⟩
set_option maxRecDepth 20000 in
theorem m_81 : Cond.instanceMethod y_Fo_init ∈ WL := List.mem_filter.mpr ⟨List.mem_of_getElem? (i := 81) rfl, rfl⟩
set_option maxRecDepth 20000 in
theorem m_82 : Cond.code y_Fo_init b_Fo_init 1 (Option.none : Option Jvm.ClassFile.FieldType) ∈ WL := List.mem_filter.mpr ⟨List.mem_of_getElem? (i := 82) rfl, rfl⟩
set_option maxRecDepth 20000 in
theorem m_83 : Cond.methodLink R_Fo 3 ⟨"java/lang/Object", "<init>", "()V"⟩ ∈ WL := List.mem_filter.mpr ⟨List.mem_of_getElem? (i := 83) rfl, rfl⟩
set_option maxRecDepth 20000 in
theorem m_84 : Cond.fieldLink R_Fo 9 R_Fo "rowCount" "[I" ∈ WL := List.mem_filter.mpr ⟨List.mem_of_getElem? (i := 84) rfl, rfl⟩
set_option maxRecDepth 20000 in
theorem m_85 : Cond.fieldLink R_Fo 15 R_Fo "thicknessOf" "[I" ∈ WL := List.mem_filter.mpr ⟨List.mem_of_getElem? (i := 85) rfl, rfl⟩
set_option maxRecDepth 20000 in
theorem m_86 : Cond.fieldLink R_Fo 18 R_Fo "pointCount" "[I" ∈ WL := List.mem_filter.mpr ⟨List.mem_of_getElem? (i := 86) rfl, rfl⟩
set_option maxRecDepth 20000 in
theorem m_87 : Cond.fieldLink R_Fo 21 R_Fo "stressOf" "[I" ∈ WL := List.mem_filter.mpr ⟨List.mem_of_getElem? (i := 87) rfl, rfl⟩
set_option maxRecDepth 20000 in
theorem m_88 : Cond.fieldLink R_Fo 24 R_Fo "valueOf" "[I" ∈ WL := List.mem_filter.mpr ⟨List.mem_of_getElem? (i := 88) rfl, rfl⟩
set_option maxRecDepth 20000 in
theorem m_100 : Cond.classLink R_Cc 23 R_Pk ∈ WL := List.mem_filter.mpr ⟨List.mem_of_getElem? (i := 100) rfl, rfl⟩
set_option maxRecDepth 20000 in
theorem m_101 : Cond.instantiable R_Pk 8 ∈ WL := List.mem_filter.mpr ⟨List.mem_of_getElem? (i := 101) rfl, rfl⟩
set_option maxRecDepth 20000 in
theorem m_102 : Cond.methodLink R_Cc 25 y_Pk_init ∈ WL := List.mem_filter.mpr ⟨List.mem_of_getElem? (i := 102) rfl, rfl⟩
set_option maxRecDepth 20000 in
theorem m_103 : Cond.instanceMethod y_Pk_init ∈ WL := List.mem_filter.mpr ⟨List.mem_of_getElem? (i := 103) rfl, rfl⟩
set_option maxRecDepth 20000 in
theorem m_104 : Cond.code y_Pk_init b_Pk_init 1 (Option.none : Option Jvm.ClassFile.FieldType) ∈ WL := List.mem_filter.mpr ⟨List.mem_of_getElem? (i := 104) rfl, rfl⟩
set_option maxRecDepth 20000 in
theorem m_105 : Cond.methodLink R_Pk 3 ⟨"java/lang/Object", "<init>", "()V"⟩ ∈ WL := List.mem_filter.mpr ⟨List.mem_of_getElem? (i := 105) rfl, rfl⟩
set_option maxRecDepth 20000 in
theorem m_106 : Cond.fieldLink R_Pk 9 R_Pk "sizes" "[I" ∈ WL := List.mem_filter.mpr ⟨List.mem_of_getElem? (i := 106) rfl, rfl⟩
set_option maxRecDepth 20000 in
theorem m_107 : Cond.fieldLink R_Pk 15 R_Pk "wayOf" "[I" ∈ WL := List.mem_filter.mpr ⟨List.mem_of_getElem? (i := 107) rfl, rfl⟩
set_option maxRecDepth 20000 in
theorem m_108 : Cond.fieldLink R_Pk 18 R_Pk "startOf" "[I" ∈ WL := List.mem_filter.mpr ⟨List.mem_of_getElem? (i := 108) rfl, rfl⟩
set_option maxRecDepth 20000 in
theorem m_109 : Cond.fieldLink R_Pk 21 R_Pk "triedWay" "[I" ∈ WL := List.mem_filter.mpr ⟨List.mem_of_getElem? (i := 109) rfl, rfl⟩
set_option maxRecDepth 20000 in
theorem m_110 : Cond.fieldLink R_Pk 24 R_Pk "packed" "Z" ∈ WL := List.mem_filter.mpr ⟨List.mem_of_getElem? (i := 110) rfl, rfl⟩
set_option maxRecDepth 20000 in
theorem m_111 : Cond.fieldLink R_Pk 58 R_Pk "members" "I" ∈ WL := List.mem_filter.mpr ⟨List.mem_of_getElem? (i := 111) rfl, rfl⟩
set_option maxRecDepth 20000 in
theorem m_112 : Cond.fieldLink R_Pk 61 R_Pk "gap" "I" ∈ WL := List.mem_filter.mpr ⟨List.mem_of_getElem? (i := 112) rfl, rfl⟩
set_option maxRecDepth 20000 in
theorem m_113 : Cond.fieldLink R_Pk 95 R_Pk "leastProduct" "J" ∈ WL := List.mem_filter.mpr ⟨List.mem_of_getElem? (i := 113) rfl, rfl⟩
set_option maxRecDepth 20000 in
theorem m_131 : Cond.classLink R_Cc 30 R_Sk ∈ WL := List.mem_filter.mpr ⟨List.mem_of_getElem? (i := 131) rfl, rfl⟩
set_option maxRecDepth 20000 in
theorem m_132 : Cond.instantiable R_Sk 5 ∈ WL := List.mem_filter.mpr ⟨List.mem_of_getElem? (i := 132) rfl, rfl⟩
set_option maxRecDepth 20000 in
theorem m_133 : Cond.methodLink R_Cc 32 y_Sk_init ∈ WL := List.mem_filter.mpr ⟨List.mem_of_getElem? (i := 133) rfl, rfl⟩
set_option maxRecDepth 20000 in
theorem m_134 : Cond.instanceMethod y_Sk_init ∈ WL := List.mem_filter.mpr ⟨List.mem_of_getElem? (i := 134) rfl, rfl⟩
set_option maxRecDepth 20000 in
theorem m_135 : Cond.code y_Sk_init b_Sk_init 1 (Option.none : Option Jvm.ClassFile.FieldType) ∈ WL := List.mem_filter.mpr ⟨List.mem_of_getElem? (i := 135) rfl, rfl⟩
set_option maxRecDepth 20000 in
theorem m_136 : Cond.methodLink R_Sk 3 ⟨"java/lang/Object", "<init>", "()V"⟩ ∈ WL := List.mem_filter.mpr ⟨List.mem_of_getElem? (i := 136) rfl, rfl⟩
set_option maxRecDepth 20000 in
theorem m_137 : Cond.fieldLink R_Sk 9 R_Sk "lengthOf" "[I" ∈ WL := List.mem_filter.mpr ⟨List.mem_of_getElem? (i := 137) rfl, rfl⟩
set_option maxRecDepth 20000 in
theorem m_138 : Cond.fieldLink R_Sk 15 R_Sk "widthOf" "[I" ∈ WL := List.mem_filter.mpr ⟨List.mem_of_getElem? (i := 138) rfl, rfl⟩
set_option maxRecDepth 20000 in
theorem m_139 : Cond.fieldLink R_Sk 18 R_Sk "heightOf" "[I" ∈ WL := List.mem_filter.mpr ⟨List.mem_of_getElem? (i := 139) rfl, rfl⟩
set_option maxRecDepth 20000 in
theorem m_140 : Cond.fieldLink R_Sk 21 R_Sk "taken" "[Z" ∈ WL := List.mem_filter.mpr ⟨List.mem_of_getElem? (i := 140) rfl, rfl⟩
set_option maxRecDepth 20000 in
theorem m_141 : Cond.fieldLink R_Sk 25 R_Sk "count" "I" ∈ WL := List.mem_filter.mpr ⟨List.mem_of_getElem? (i := 141) rfl, rfl⟩
set_option maxRecDepth 20000 in
theorem m_154 : Cond.arrayClass FieldType.boolean ∈ WL := List.mem_filter.mpr ⟨List.mem_of_getElem? (i := 154) rfl, rfl⟩
set_option maxRecDepth 20000 in
theorem m_155 : Cond.classLink R_Cc 37 R_Ai ∈ WL := List.mem_filter.mpr ⟨List.mem_of_getElem? (i := 155) rfl, rfl⟩
set_option maxRecDepth 20000 in
theorem m_156 : Cond.instantiable R_Ai 3 ∈ WL := List.mem_filter.mpr ⟨List.mem_of_getElem? (i := 156) rfl, rfl⟩
set_option maxRecDepth 20000 in
theorem m_157 : Cond.methodLink R_Cc 39 y_Ai_init ∈ WL := List.mem_filter.mpr ⟨List.mem_of_getElem? (i := 157) rfl, rfl⟩
set_option maxRecDepth 20000 in
theorem m_158 : Cond.instanceMethod y_Ai_init ∈ WL := List.mem_filter.mpr ⟨List.mem_of_getElem? (i := 158) rfl, rfl⟩
set_option maxRecDepth 20000 in
theorem m_159 : Cond.code y_Ai_init b_Ai_init 1 (Option.none : Option Jvm.ClassFile.FieldType) ∈ WL := List.mem_filter.mpr ⟨List.mem_of_getElem? (i := 159) rfl, rfl⟩
set_option maxRecDepth 20000 in
theorem m_160 : Cond.methodLink R_Ai 3 ⟨"java/lang/Object", "<init>", "()V"⟩ ∈ WL := List.mem_filter.mpr ⟨List.mem_of_getElem? (i := 160) rfl, rfl⟩
set_option maxRecDepth 20000 in
theorem m_161 : Cond.fieldLink R_Ai 9 R_Ai "insideAfter" "[I" ∈ WL := List.mem_filter.mpr ⟨List.mem_of_getElem? (i := 161) rfl, rfl⟩
set_option maxRecDepth 20000 in
theorem m_162 : Cond.fieldLink R_Ai 15 R_Ai "hours" "I" ∈ WL := List.mem_filter.mpr ⟨List.mem_of_getElem? (i := 162) rfl, rfl⟩
set_option maxRecDepth 20000 in
theorem m_164 : Cond.fieldLink R_Ai 19 R_Ai "lagHours" "I" ∈ WL := List.mem_filter.mpr ⟨List.mem_of_getElem? (i := 164) rfl, rfl⟩
set_option maxRecDepth 20000 in
theorem m_172 : Cond.classLink R_Cc 44 R_Sh ∈ WL := List.mem_filter.mpr ⟨List.mem_of_getElem? (i := 172) rfl, rfl⟩
set_option maxRecDepth 20000 in
theorem m_173 : Cond.instantiable R_Sh 4 ∈ WL := List.mem_filter.mpr ⟨List.mem_of_getElem? (i := 173) rfl, rfl⟩
set_option maxRecDepth 20000 in
theorem m_174 : Cond.methodLink R_Cc 46 y_Sh_init ∈ WL := List.mem_filter.mpr ⟨List.mem_of_getElem? (i := 174) rfl, rfl⟩
set_option maxRecDepth 20000 in
theorem m_175 : Cond.instanceMethod y_Sh_init ∈ WL := List.mem_filter.mpr ⟨List.mem_of_getElem? (i := 175) rfl, rfl⟩
set_option maxRecDepth 20000 in
theorem m_176 : Cond.code y_Sh_init b_Sh_init 1 (Option.none : Option Jvm.ClassFile.FieldType) ∈ WL := List.mem_filter.mpr ⟨List.mem_of_getElem? (i := 176) rfl, rfl⟩
set_option maxRecDepth 20000 in
theorem m_177 : Cond.methodLink R_Sh 3 ⟨"java/lang/Object", "<init>", "()V"⟩ ∈ WL := List.mem_filter.mpr ⟨List.mem_of_getElem? (i := 177) rfl, rfl⟩
set_option maxRecDepth 20000 in
theorem m_178 : Cond.fieldLink R_Sh 9 R_Sh "peak" "I" ∈ WL := List.mem_filter.mpr ⟨List.mem_of_getElem? (i := 178) rfl, rfl⟩
set_option maxRecDepth 20000 in
theorem m_179 : Cond.fieldLink R_Sh 15 R_Sh "longest" "I" ∈ WL := List.mem_filter.mpr ⟨List.mem_of_getElem? (i := 179) rfl, rfl⟩
set_option maxRecDepth 20000 in
theorem m_180 : Cond.fieldLink R_Sh 18 R_Sh "count" "I" ∈ WL := List.mem_filter.mpr ⟨List.mem_of_getElem? (i := 180) rfl, rfl⟩
set_option maxRecDepth 20000 in
theorem m_182 : Cond.fieldLink R_Sh 21 R_Sh "toldCount" "I" ∈ WL := List.mem_filter.mpr ⟨List.mem_of_getElem? (i := 182) rfl, rfl⟩
set_option maxRecDepth 20000 in
theorem m_193 : Cond.classLink R_Cc 51 R_Jo ∈ WL := List.mem_filter.mpr ⟨List.mem_of_getElem? (i := 193) rfl, rfl⟩
set_option maxRecDepth 20000 in
theorem m_194 : Cond.instantiable R_Jo 2 ∈ WL := List.mem_filter.mpr ⟨List.mem_of_getElem? (i := 194) rfl, rfl⟩
set_option maxRecDepth 20000 in
theorem m_195 : Cond.methodLink R_Cc 53 y_Jo_init ∈ WL := List.mem_filter.mpr ⟨List.mem_of_getElem? (i := 195) rfl, rfl⟩
set_option maxRecDepth 20000 in
theorem m_196 : Cond.instanceMethod y_Jo_init ∈ WL := List.mem_filter.mpr ⟨List.mem_of_getElem? (i := 196) rfl, rfl⟩
set_option maxRecDepth 20000 in
theorem m_197 : Cond.code y_Jo_init b_Jo_init 1 (Option.none : Option Jvm.ClassFile.FieldType) ∈ WL := List.mem_filter.mpr ⟨List.mem_of_getElem? (i := 197) rfl, rfl⟩
set_option maxRecDepth 20000 in
theorem m_198 : Cond.methodLink R_Jo 3 ⟨"java/lang/Object", "<init>", "()V"⟩ ∈ WL := List.mem_filter.mpr ⟨List.mem_of_getElem? (i := 198) rfl, rfl⟩
set_option maxRecDepth 20000 in
theorem m_199 : Cond.fieldLink R_Jo 9 R_Jo "drops" "[I" ∈ WL := List.mem_filter.mpr ⟨List.mem_of_getElem? (i := 199) rfl, rfl⟩
set_option maxRecDepth 20000 in
theorem m_200 : Cond.fieldLink R_Jo 15 R_Jo "legCount" "I" ∈ WL := List.mem_filter.mpr ⟨List.mem_of_getElem? (i := 200) rfl, rfl⟩
set_option maxRecDepth 20000 in
theorem m_206 : Cond.fieldLink R_Cc 10 R_Cc "goods" "LCrateCushions$Goods;" ∈ WL := List.mem_filter.mpr ⟨List.mem_of_getElem? (i := 206) rfl, rfl⟩
set_option maxRecDepth 20000 in
theorem m_207 : Cond.fieldLink R_Cc 19 R_Cc "foams" "LCrateCushions$Foams;" ∈ WL := List.mem_filter.mpr ⟨List.mem_of_getElem? (i := 207) rfl, rfl⟩
set_option maxRecDepth 20000 in
theorem m_208 : Cond.fieldLink R_Cc 26 R_Cc "packing" "LCrateCushions$Packing;" ∈ WL := List.mem_filter.mpr ⟨List.mem_of_getElem? (i := 208) rfl, rfl⟩
set_option maxRecDepth 20000 in
theorem m_209 : Cond.fieldLink R_Cc 33 R_Cc "stock" "LCrateCushions$Stock;" ∈ WL := List.mem_filter.mpr ⟨List.mem_of_getElem? (i := 209) rfl, rfl⟩
set_option maxRecDepth 20000 in
theorem m_210 : Cond.fieldLink R_Cc 40 R_Cc "air" "LCrateCushions$Air;" ∈ WL := List.mem_filter.mpr ⟨List.mem_of_getElem? (i := 210) rfl, rfl⟩
set_option maxRecDepth 20000 in
theorem m_211 : Cond.fieldLink R_Cc 47 R_Cc "shocks" "LCrateCushions$Shocks;" ∈ WL := List.mem_filter.mpr ⟨List.mem_of_getElem? (i := 211) rfl, rfl⟩
set_option maxRecDepth 20000 in
theorem m_212 : Cond.fieldLink R_Cc 54 R_Cc "journey" "LCrateCushions$Journey;" ∈ WL := List.mem_filter.mpr ⟨List.mem_of_getElem? (i := 212) rfl, rfl⟩
set_option maxRecDepth 20000 in
theorem m_228 : Cond.methodLink R_La 94 y_La_object ∈ WL := List.mem_filter.mpr ⟨List.mem_of_getElem? (i := 228) rfl, rfl⟩
set_option maxRecDepth 20000 in
theorem m_229 : Cond.static y_La_object ∈ WL := List.mem_filter.mpr ⟨List.mem_of_getElem? (i := 229) rfl, rfl⟩
set_option maxRecDepth 20000 in
theorem m_231 : Cond.classLink R_La 13 "java/lang/IllegalStateException" ∈ WL := List.mem_filter.mpr ⟨List.mem_of_getElem? (i := 231) rfl, rfl⟩
set_option maxRecDepth 20000 in
theorem m_232 : Cond.classLink R_La 15 "java/lang/IllegalArgumentException" ∈ WL := List.mem_filter.mpr ⟨List.mem_of_getElem? (i := 232) rfl, rfl⟩
set_option maxRecDepth 20000 in
theorem m_233 : Cond.methodLink R_La 7 y_Cc_object ∈ WL := List.mem_filter.mpr ⟨List.mem_of_getElem? (i := 233) rfl, rfl⟩
set_option maxRecDepth 20000 in
theorem m_234 : Cond.instanceMethod y_Cc_object ∈ WL := List.mem_filter.mpr ⟨List.mem_of_getElem? (i := 234) rfl, rfl⟩
set_option maxRecDepth 20000 in
theorem m_235 : Cond.selects R_Cc y_Cc_object y_Cc_object ∈ WL := List.mem_filter.mpr ⟨List.mem_of_getElem? (i := 235) rfl, rfl⟩
set_option maxRecDepth 20000 in
theorem m_236 : Cond.code y_Cc_object b_Cc_object 5 (some .int) ∈ WL := List.mem_filter.mpr ⟨List.mem_of_getElem? (i := 236) rfl, rfl⟩
set_option maxRecDepth 20000 in
theorem m_237 : Cond.methodLink R_Cc 58 y_Go_add ∈ WL := List.mem_filter.mpr ⟨List.mem_of_getElem? (i := 237) rfl, rfl⟩
set_option maxRecDepth 20000 in
theorem m_238 : Cond.instanceMethod y_Go_add ∈ WL := List.mem_filter.mpr ⟨List.mem_of_getElem? (i := 238) rfl, rfl⟩
set_option maxRecDepth 20000 in
theorem m_239 : Cond.selects R_Go y_Go_add y_Go_add ∈ WL := List.mem_filter.mpr ⟨List.mem_of_getElem? (i := 239) rfl, rfl⟩
set_option maxRecDepth 20000 in
theorem m_240 : Cond.code y_Go_add b_Go_add 6 (some .int) ∈ WL := List.mem_filter.mpr ⟨List.mem_of_getElem? (i := 240) rfl, rfl⟩
set_option maxRecDepth 20000 in
theorem m_242 : Cond.static y_Cc_requireRoom ∈ WL := List.mem_filter.mpr ⟨List.mem_of_getElem? (i := 242) rfl, rfl⟩
set_option maxRecDepth 20000 in
theorem m_243 : Cond.code y_Cc_requireRoom b_Cc_requireRoom 2 (Option.none : Option Jvm.ClassFile.FieldType) ∈ WL := List.mem_filter.mpr ⟨List.mem_of_getElem? (i := 243) rfl, rfl⟩
set_option maxRecDepth 20000 in
theorem m_244 : Cond.classLink R_Cc 161 "java/lang/IllegalStateException" ∈ WL := List.mem_filter.mpr ⟨List.mem_of_getElem? (i := 244) rfl, rfl⟩
set_option maxRecDepth 20000 in
theorem m_245 : Cond.instantiable "java/lang/IllegalStateException" 6 ∈ WL := List.mem_filter.mpr ⟨List.mem_of_getElem? (i := 245) rfl, rfl⟩
set_option maxRecDepth 20000 in
theorem m_253 : Cond.selects "java/lang/IllegalStateException" ⟨"java/lang/Throwable", "fillInStackTrace", "(I)Ljava/lang/Throwable;"⟩ ⟨"java/lang/Throwable", "fillInStackTrace", "(I)Ljava/lang/Throwable;"⟩ ∈ WL := List.mem_filter.mpr ⟨List.mem_of_getElem? (i := 253) rfl, rfl⟩
set_option maxRecDepth 20000 in
theorem m_254 : Cond.selects "java/lang/IllegalStateException" ⟨"java/lang/Throwable", "fillInStackTrace", "()Ljava/lang/Throwable;"⟩ ⟨"java/lang/Throwable", "fillInStackTrace", "()Ljava/lang/Throwable;"⟩ ∈ WL := List.mem_filter.mpr ⟨List.mem_of_getElem? (i := 254) rfl, rfl⟩
set_option maxRecDepth 20000 in
theorem m_265 : Cond.fieldLink "java/lang/Throwable" 198 "java/lang/Throwable" "backtrace" "Ljava/lang/Object;" ∈ WL := List.mem_filter.mpr ⟨List.mem_of_getElem? (i := 265) rfl, rfl⟩
set_option maxRecDepth 20000 in
theorem m_267 : Cond.instanceMethod ⟨"java/lang/Throwable", "<init>", "()V"⟩ ∈ WL := List.mem_filter.mpr ⟨List.mem_of_getElem? (i := 267) rfl, rfl⟩
set_option maxRecDepth 20000 in
theorem m_269 : Cond.methodLink "java/lang/Throwable" 1 ⟨"java/lang/Object", "<init>", "()V"⟩ ∈ WL := List.mem_filter.mpr ⟨List.mem_of_getElem? (i := 269) rfl, rfl⟩
set_option maxRecDepth 20000 in
theorem m_270 : Cond.fieldLink "java/lang/Throwable" 13 "java/lang/Throwable" "UNASSIGNED_STACK" "[Ljava/lang/StackTraceElement;" ∈ WL := List.mem_filter.mpr ⟨List.mem_of_getElem? (i := 270) rfl, rfl⟩
set_option maxRecDepth 20000 in
theorem m_272 : Cond.fieldLink "java/lang/Throwable" 20 "java/lang/Throwable" "SUPPRESSED_SENTINEL" "Ljava/util/List;" ∈ WL := List.mem_filter.mpr ⟨List.mem_of_getElem? (i := 272) rfl, rfl⟩
set_option maxRecDepth 20000 in
theorem m_274 : Cond.methodLink "java/lang/Throwable" 27 ⟨"java/lang/Throwable", "fillInStackTrace", "()Ljava/lang/Throwable;"⟩ ∈ WL := List.mem_filter.mpr ⟨List.mem_of_getElem? (i := 274) rfl, rfl⟩
set_option maxRecDepth 20000 in
theorem m_275 : Cond.instanceMethod ⟨"java/lang/Throwable", "fillInStackTrace", "()Ljava/lang/Throwable;"⟩ ∈ WL := List.mem_filter.mpr ⟨List.mem_of_getElem? (i := 275) rfl, rfl⟩
set_option maxRecDepth 20000 in
theorem m_277 : Cond.selects "java/lang/IllegalArgumentException" ⟨"java/lang/Throwable", "fillInStackTrace", "()Ljava/lang/Throwable;"⟩ ⟨"java/lang/Throwable", "fillInStackTrace", "()Ljava/lang/Throwable;"⟩ ∈ WL := List.mem_filter.mpr ⟨List.mem_of_getElem? (i := 277) rfl, rfl⟩
set_option maxRecDepth 20000 in
theorem m_278 : Cond.selects "java/lang/IndexOutOfBoundsException" ⟨"java/lang/Throwable", "fillInStackTrace", "()Ljava/lang/Throwable;"⟩ ⟨"java/lang/Throwable", "fillInStackTrace", "()Ljava/lang/Throwable;"⟩ ∈ WL := List.mem_filter.mpr ⟨List.mem_of_getElem? (i := 278) rfl, rfl⟩
set_option maxRecDepth 20000 in
theorem m_280 : Cond.methodLink "java/lang/Throwable" 202 ⟨"java/lang/Throwable", "fillInStackTrace", "(I)Ljava/lang/Throwable;"⟩ ∈ WL := List.mem_filter.mpr ⟨List.mem_of_getElem? (i := 280) rfl, rfl⟩
set_option maxRecDepth 20000 in
theorem m_282 : Cond.instanceMethod ⟨"java/lang/Throwable", "fillInStackTrace", "(I)Ljava/lang/Throwable;"⟩ ∈ WL := List.mem_filter.mpr ⟨List.mem_of_getElem? (i := 282) rfl, rfl⟩
set_option maxRecDepth 20000 in
theorem m_283 : Cond.instantiable "java/lang/Throwable" 6 ∈ WL := List.mem_filter.mpr ⟨List.mem_of_getElem? (i := 283) rfl, rfl⟩
set_option maxRecDepth 20000 in
theorem m_284 : Cond.native ⟨"java/lang/Throwable", "fillInStackTrace", "(I)Ljava/lang/Throwable;"⟩ ∈ WL := List.mem_filter.mpr ⟨List.mem_of_getElem? (i := 284) rfl, rfl⟩
set_option maxRecDepth 20000 in
theorem m_286 : Cond.methodLink R_Cc 165 ⟨"java/lang/IllegalStateException", "<init>", "(Ljava/lang/String;)V"⟩ ∈ WL := List.mem_filter.mpr ⟨List.mem_of_getElem? (i := 286) rfl, rfl⟩
set_option maxRecDepth 20000 in
theorem m_287 : Cond.instanceMethod ⟨"java/lang/IllegalStateException", "<init>", "(Ljava/lang/String;)V"⟩ ∈ WL := List.mem_filter.mpr ⟨List.mem_of_getElem? (i := 287) rfl, rfl⟩
set_option maxRecDepth 20000 in
theorem m_289 : Cond.methodLink "java/lang/IllegalStateException" 7 ⟨"java/lang/RuntimeException", "<init>", "(Ljava/lang/String;)V"⟩ ∈ WL := List.mem_filter.mpr ⟨List.mem_of_getElem? (i := 289) rfl, rfl⟩
set_option maxRecDepth 20000 in
theorem m_290 : Cond.instanceMethod ⟨"java/lang/RuntimeException", "<init>", "(Ljava/lang/String;)V"⟩ ∈ WL := List.mem_filter.mpr ⟨List.mem_of_getElem? (i := 290) rfl, rfl⟩
set_option maxRecDepth 20000 in
theorem m_292 : Cond.methodLink "java/lang/RuntimeException" 7 ⟨"java/lang/Exception", "<init>", "(Ljava/lang/String;)V"⟩ ∈ WL := List.mem_filter.mpr ⟨List.mem_of_getElem? (i := 292) rfl, rfl⟩
set_option maxRecDepth 20000 in
theorem m_293 : Cond.instanceMethod ⟨"java/lang/Exception", "<init>", "(Ljava/lang/String;)V"⟩ ∈ WL := List.mem_filter.mpr ⟨List.mem_of_getElem? (i := 293) rfl, rfl⟩
set_option maxRecDepth 20000 in
theorem m_295 : Cond.methodLink "java/lang/Exception" 7 ⟨"java/lang/Throwable", "<init>", "(Ljava/lang/String;)V"⟩ ∈ WL := List.mem_filter.mpr ⟨List.mem_of_getElem? (i := 295) rfl, rfl⟩
set_option maxRecDepth 20000 in
theorem m_296 : Cond.instanceMethod ⟨"java/lang/Throwable", "<init>", "(Ljava/lang/String;)V"⟩ ∈ WL := List.mem_filter.mpr ⟨List.mem_of_getElem? (i := 296) rfl, rfl⟩
set_option maxRecDepth 20000 in
theorem m_299 : Cond.fieldLink "java/lang/Throwable" 31 "java/lang/Throwable" "detailMessage" "Ljava/lang/String;" ∈ WL := List.mem_filter.mpr ⟨List.mem_of_getElem? (i := 299) rfl, rfl⟩
set_option maxRecDepth 20000 in
theorem m_300 : Cond.fieldLink "java/lang/Throwable" 7 "java/lang/Throwable" "cause" "Ljava/lang/Throwable;" ∈ WL := List.mem_filter.mpr ⟨List.mem_of_getElem? (i := 300) rfl, rfl⟩
set_option maxRecDepth 20000 in
theorem m_301 : Cond.fieldLink "java/lang/Throwable" 17 "java/lang/Throwable" "stackTrace" "[Ljava/lang/StackTraceElement;" ∈ WL := List.mem_filter.mpr ⟨List.mem_of_getElem? (i := 301) rfl, rfl⟩
set_option maxRecDepth 20000 in
theorem m_302 : Cond.fieldLink "java/lang/Throwable" 24 "java/lang/Throwable" "suppressedExceptions" "Ljava/util/List;" ∈ WL := List.mem_filter.mpr ⟨List.mem_of_getElem? (i := 302) rfl, rfl⟩
set_option maxRecDepth 20000 in
theorem m_311 : Cond.arrayClass FieldType.byte ∈ WL := List.mem_filter.mpr ⟨List.mem_of_getElem? (i := 311) rfl, rfl⟩
set_option maxRecDepth 20000 in
theorem m_313 : Cond.static y_Cc_requireRange ∈ WL := List.mem_filter.mpr ⟨List.mem_of_getElem? (i := 313) rfl, rfl⟩
set_option maxRecDepth 20000 in
theorem m_314 : Cond.code y_Cc_requireRange b_Cc_requireRange 3 (Option.none : Option Jvm.ClassFile.FieldType) ∈ WL := List.mem_filter.mpr ⟨List.mem_of_getElem? (i := 314) rfl, rfl⟩
set_option maxRecDepth 20000 in
theorem m_315 : Cond.classLink R_Cc 156 "java/lang/IllegalArgumentException" ∈ WL := List.mem_filter.mpr ⟨List.mem_of_getElem? (i := 315) rfl, rfl⟩
set_option maxRecDepth 20000 in
theorem m_316 : Cond.instantiable "java/lang/IllegalArgumentException" 6 ∈ WL := List.mem_filter.mpr ⟨List.mem_of_getElem? (i := 316) rfl, rfl⟩
set_option maxRecDepth 20000 in
theorem m_318 : Cond.selects "java/lang/IllegalArgumentException" ⟨"java/lang/Throwable", "fillInStackTrace", "(I)Ljava/lang/Throwable;"⟩ ⟨"java/lang/Throwable", "fillInStackTrace", "(I)Ljava/lang/Throwable;"⟩ ∈ WL := List.mem_filter.mpr ⟨List.mem_of_getElem? (i := 318) rfl, rfl⟩
set_option maxRecDepth 20000 in
theorem m_325 : Cond.methodLink R_Cc 160 ⟨"java/lang/IllegalArgumentException", "<init>", "(Ljava/lang/String;)V"⟩ ∈ WL := List.mem_filter.mpr ⟨List.mem_of_getElem? (i := 325) rfl, rfl⟩
set_option maxRecDepth 20000 in
theorem m_326 : Cond.instanceMethod ⟨"java/lang/IllegalArgumentException", "<init>", "(Ljava/lang/String;)V"⟩ ∈ WL := List.mem_filter.mpr ⟨List.mem_of_getElem? (i := 326) rfl, rfl⟩
set_option maxRecDepth 20000 in
theorem m_328 : Cond.methodLink "java/lang/IllegalArgumentException" 7 ⟨"java/lang/RuntimeException", "<init>", "(Ljava/lang/String;)V"⟩ ∈ WL := List.mem_filter.mpr ⟨List.mem_of_getElem? (i := 328) rfl, rfl⟩
set_option maxRecDepth 20000 in
theorem m_331 : Cond.constant R_Go 39 100000 ∈ WL := List.mem_filter.mpr ⟨List.mem_of_getElem? (i := 331) rfl, rfl⟩
set_option maxRecDepth 20000 in
theorem m_332 : Cond.methodLink R_La 103 y_La_weak ∈ WL := List.mem_filter.mpr ⟨List.mem_of_getElem? (i := 332) rfl, rfl⟩
set_option maxRecDepth 20000 in
theorem m_333 : Cond.static y_La_weak ∈ WL := List.mem_filter.mpr ⟨List.mem_of_getElem? (i := 333) rfl, rfl⟩
set_option maxRecDepth 20000 in
theorem m_335 : Cond.classLink R_La 21 "java/lang/IndexOutOfBoundsException" ∈ WL := List.mem_filter.mpr ⟨List.mem_of_getElem? (i := 335) rfl, rfl⟩
set_option maxRecDepth 20000 in
theorem m_336 : Cond.methodLink R_La 17 y_Cc_weak ∈ WL := List.mem_filter.mpr ⟨List.mem_of_getElem? (i := 336) rfl, rfl⟩
set_option maxRecDepth 20000 in
theorem m_337 : Cond.instanceMethod y_Cc_weak ∈ WL := List.mem_filter.mpr ⟨List.mem_of_getElem? (i := 337) rfl, rfl⟩
set_option maxRecDepth 20000 in
theorem m_338 : Cond.selects R_Cc y_Cc_weak y_Cc_weak ∈ WL := List.mem_filter.mpr ⟨List.mem_of_getElem? (i := 338) rfl, rfl⟩
set_option maxRecDepth 20000 in
theorem m_339 : Cond.code y_Cc_weak b_Cc_weak 4 (some .boolean) ∈ WL := List.mem_filter.mpr ⟨List.mem_of_getElem? (i := 339) rfl, rfl⟩
set_option maxRecDepth 20000 in
theorem m_340 : Cond.methodLink R_Cc 62 y_Go_setWeak ∈ WL := List.mem_filter.mpr ⟨List.mem_of_getElem? (i := 340) rfl, rfl⟩
set_option maxRecDepth 20000 in
theorem m_341 : Cond.instanceMethod y_Go_setWeak ∈ WL := List.mem_filter.mpr ⟨List.mem_of_getElem? (i := 341) rfl, rfl⟩
set_option maxRecDepth 20000 in
theorem m_342 : Cond.selects R_Go y_Go_setWeak y_Go_setWeak ∈ WL := List.mem_filter.mpr ⟨List.mem_of_getElem? (i := 342) rfl, rfl⟩
set_option maxRecDepth 20000 in
theorem m_343 : Cond.code y_Go_setWeak b_Go_setWeak 6 (some .boolean) ∈ WL := List.mem_filter.mpr ⟨List.mem_of_getElem? (i := 343) rfl, rfl⟩
set_option maxRecDepth 20000 in
theorem m_345 : Cond.static y_Cc_requireIndex ∈ WL := List.mem_filter.mpr ⟨List.mem_of_getElem? (i := 345) rfl, rfl⟩
set_option maxRecDepth 20000 in
theorem m_346 : Cond.code y_Cc_requireIndex b_Cc_requireIndex 2 (Option.none : Option Jvm.ClassFile.FieldType) ∈ WL := List.mem_filter.mpr ⟨List.mem_of_getElem? (i := 346) rfl, rfl⟩
set_option maxRecDepth 20000 in
theorem m_347 : Cond.classLink R_Cc 147 "java/lang/IndexOutOfBoundsException" ∈ WL := List.mem_filter.mpr ⟨List.mem_of_getElem? (i := 347) rfl, rfl⟩
set_option maxRecDepth 20000 in
theorem m_348 : Cond.instantiable "java/lang/IndexOutOfBoundsException" 6 ∈ WL := List.mem_filter.mpr ⟨List.mem_of_getElem? (i := 348) rfl, rfl⟩
set_option maxRecDepth 20000 in
theorem m_350 : Cond.selects "java/lang/IndexOutOfBoundsException" ⟨"java/lang/Throwable", "fillInStackTrace", "(I)Ljava/lang/Throwable;"⟩ ⟨"java/lang/Throwable", "fillInStackTrace", "(I)Ljava/lang/Throwable;"⟩ ∈ WL := List.mem_filter.mpr ⟨List.mem_of_getElem? (i := 350) rfl, rfl⟩
set_option maxRecDepth 20000 in
theorem m_357 : Cond.methodLink R_Cc 151 ⟨"java/lang/IndexOutOfBoundsException", "<init>", "(Ljava/lang/String;)V"⟩ ∈ WL := List.mem_filter.mpr ⟨List.mem_of_getElem? (i := 357) rfl, rfl⟩
set_option maxRecDepth 20000 in
theorem m_358 : Cond.instanceMethod ⟨"java/lang/IndexOutOfBoundsException", "<init>", "(Ljava/lang/String;)V"⟩ ∈ WL := List.mem_filter.mpr ⟨List.mem_of_getElem? (i := 358) rfl, rfl⟩
set_option maxRecDepth 20000 in
theorem m_360 : Cond.methodLink "java/lang/IndexOutOfBoundsException" 7 ⟨"java/lang/RuntimeException", "<init>", "(Ljava/lang/String;)V"⟩ ∈ WL := List.mem_filter.mpr ⟨List.mem_of_getElem? (i := 360) rfl, rfl⟩
set_option maxRecDepth 20000 in
theorem m_363 : Cond.methodLink R_La 107 y_La_foam ∈ WL := List.mem_filter.mpr ⟨List.mem_of_getElem? (i := 363) rfl, rfl⟩
set_option maxRecDepth 20000 in
theorem m_364 : Cond.static y_La_foam ∈ WL := List.mem_filter.mpr ⟨List.mem_of_getElem? (i := 364) rfl, rfl⟩
set_option maxRecDepth 20000 in
theorem m_366 : Cond.methodLink R_La 23 y_Cc_foam ∈ WL := List.mem_filter.mpr ⟨List.mem_of_getElem? (i := 366) rfl, rfl⟩
set_option maxRecDepth 20000 in
theorem m_367 : Cond.instanceMethod y_Cc_foam ∈ WL := List.mem_filter.mpr ⟨List.mem_of_getElem? (i := 367) rfl, rfl⟩
set_option maxRecDepth 20000 in
theorem m_368 : Cond.selects R_Cc y_Cc_foam y_Cc_foam ∈ WL := List.mem_filter.mpr ⟨List.mem_of_getElem? (i := 368) rfl, rfl⟩
set_option maxRecDepth 20000 in
theorem m_369 : Cond.code y_Cc_foam b_Cc_foam 3 (some .int) ∈ WL := List.mem_filter.mpr ⟨List.mem_of_getElem? (i := 369) rfl, rfl⟩
set_option maxRecDepth 20000 in
theorem m_370 : Cond.methodLink R_Cc 66 y_Fo_addRow ∈ WL := List.mem_filter.mpr ⟨List.mem_of_getElem? (i := 370) rfl, rfl⟩
set_option maxRecDepth 20000 in
theorem m_371 : Cond.instanceMethod y_Fo_addRow ∈ WL := List.mem_filter.mpr ⟨List.mem_of_getElem? (i := 371) rfl, rfl⟩
set_option maxRecDepth 20000 in
theorem m_372 : Cond.selects R_Fo y_Fo_addRow y_Fo_addRow ∈ WL := List.mem_filter.mpr ⟨List.mem_of_getElem? (i := 372) rfl, rfl⟩
set_option maxRecDepth 20000 in
theorem m_373 : Cond.code y_Fo_addRow b_Fo_addRow 6 (some .int) ∈ WL := List.mem_filter.mpr ⟨List.mem_of_getElem? (i := 373) rfl, rfl⟩
set_option maxRecDepth 20000 in
theorem m_377 : Cond.methodLink R_La 111 y_La_point ∈ WL := List.mem_filter.mpr ⟨List.mem_of_getElem? (i := 377) rfl, rfl⟩
set_option maxRecDepth 20000 in
theorem m_378 : Cond.static y_La_point ∈ WL := List.mem_filter.mpr ⟨List.mem_of_getElem? (i := 378) rfl, rfl⟩
set_option maxRecDepth 20000 in
theorem m_380 : Cond.methodLink R_La 27 y_Cc_point ∈ WL := List.mem_filter.mpr ⟨List.mem_of_getElem? (i := 380) rfl, rfl⟩
set_option maxRecDepth 20000 in
theorem m_381 : Cond.instanceMethod y_Cc_point ∈ WL := List.mem_filter.mpr ⟨List.mem_of_getElem? (i := 381) rfl, rfl⟩
set_option maxRecDepth 20000 in
theorem m_382 : Cond.selects R_Cc y_Cc_point y_Cc_point ∈ WL := List.mem_filter.mpr ⟨List.mem_of_getElem? (i := 382) rfl, rfl⟩
set_option maxRecDepth 20000 in
theorem m_383 : Cond.code y_Cc_point b_Cc_point 5 (some .int) ∈ WL := List.mem_filter.mpr ⟨List.mem_of_getElem? (i := 383) rfl, rfl⟩
set_option maxRecDepth 20000 in
theorem m_384 : Cond.methodLink R_Cc 70 y_Fo_addPoint ∈ WL := List.mem_filter.mpr ⟨List.mem_of_getElem? (i := 384) rfl, rfl⟩
set_option maxRecDepth 20000 in
theorem m_385 : Cond.instanceMethod y_Fo_addPoint ∈ WL := List.mem_filter.mpr ⟨List.mem_of_getElem? (i := 385) rfl, rfl⟩
set_option maxRecDepth 20000 in
theorem m_386 : Cond.selects R_Fo y_Fo_addPoint y_Fo_addPoint ∈ WL := List.mem_filter.mpr ⟨List.mem_of_getElem? (i := 386) rfl, rfl⟩
set_option maxRecDepth 20000 in
theorem m_387 : Cond.code y_Fo_addPoint b_Fo_addPoint 9 (some .int) ∈ WL := List.mem_filter.mpr ⟨List.mem_of_getElem? (i := 387) rfl, rfl⟩
set_option maxRecDepth 20000 in
theorem m_388 : Cond.methodLink R_Fo 38 y_Fo_placeOf ∈ WL := List.mem_filter.mpr ⟨List.mem_of_getElem? (i := 388) rfl, rfl⟩
set_option maxRecDepth 20000 in
theorem m_390 : Cond.instanceMethod y_Fo_placeOf ∈ WL := List.mem_filter.mpr ⟨List.mem_of_getElem? (i := 390) rfl, rfl⟩
set_option maxRecDepth 20000 in
theorem m_391 : Cond.code y_Fo_placeOf b_Fo_placeOf 3 (some .int) ∈ WL := List.mem_filter.mpr ⟨List.mem_of_getElem? (i := 391) rfl, rfl⟩
set_option maxRecDepth 20000 in
theorem m_392 : Cond.methodLink R_La 114 y_La_value ∈ WL := List.mem_filter.mpr ⟨List.mem_of_getElem? (i := 392) rfl, rfl⟩
set_option maxRecDepth 20000 in
theorem m_393 : Cond.static y_La_value ∈ WL := List.mem_filter.mpr ⟨List.mem_of_getElem? (i := 393) rfl, rfl⟩
set_option maxRecDepth 20000 in
theorem m_395 : Cond.methodLink R_La 30 y_Cc_value ∈ WL := List.mem_filter.mpr ⟨List.mem_of_getElem? (i := 395) rfl, rfl⟩
set_option maxRecDepth 20000 in
theorem m_396 : Cond.instanceMethod y_Cc_value ∈ WL := List.mem_filter.mpr ⟨List.mem_of_getElem? (i := 396) rfl, rfl⟩
set_option maxRecDepth 20000 in
theorem m_397 : Cond.selects R_Cc y_Cc_value y_Cc_value ∈ WL := List.mem_filter.mpr ⟨List.mem_of_getElem? (i := 397) rfl, rfl⟩
set_option maxRecDepth 20000 in
theorem m_398 : Cond.code y_Cc_value b_Cc_value 4 (some .int) ∈ WL := List.mem_filter.mpr ⟨List.mem_of_getElem? (i := 398) rfl, rfl⟩
set_option maxRecDepth 20000 in
theorem m_399 : Cond.methodLink R_Cc 73 y_Fo_valueAt ∈ WL := List.mem_filter.mpr ⟨List.mem_of_getElem? (i := 399) rfl, rfl⟩
set_option maxRecDepth 20000 in
theorem m_400 : Cond.instanceMethod y_Fo_valueAt ∈ WL := List.mem_filter.mpr ⟨List.mem_of_getElem? (i := 400) rfl, rfl⟩
set_option maxRecDepth 20000 in
theorem m_401 : Cond.selects R_Fo y_Fo_valueAt y_Fo_valueAt ∈ WL := List.mem_filter.mpr ⟨List.mem_of_getElem? (i := 401) rfl, rfl⟩
set_option maxRecDepth 20000 in
theorem m_402 : Cond.code y_Fo_valueAt b_Fo_valueAt 8 (some .int) ∈ WL := List.mem_filter.mpr ⟨List.mem_of_getElem? (i := 402) rfl, rfl⟩
set_option maxRecDepth 20000 in
theorem m_403 : Cond.methodLink R_Fo 42 y_Fo_valueBetween ∈ WL := List.mem_filter.mpr ⟨List.mem_of_getElem? (i := 403) rfl, rfl⟩
set_option maxRecDepth 20000 in
theorem m_405 : Cond.instanceMethod y_Fo_valueBetween ∈ WL := List.mem_filter.mpr ⟨List.mem_of_getElem? (i := 405) rfl, rfl⟩
set_option maxRecDepth 20000 in
theorem m_406 : Cond.code y_Fo_valueBetween b_Fo_valueBetween 6 (some .int) ∈ WL := List.mem_filter.mpr ⟨List.mem_of_getElem? (i := 406) rfl, rfl⟩
set_option maxRecDepth 20000 in
theorem m_407 : Cond.methodLink R_Fo 49 y_Ma_floorDiv ∈ WL := List.mem_filter.mpr ⟨List.mem_of_getElem? (i := 407) rfl, rfl⟩
set_option maxRecDepth 20000 in
theorem m_408 : Cond.static y_Ma_floorDiv ∈ WL := List.mem_filter.mpr ⟨List.mem_of_getElem? (i := 408) rfl, rfl⟩
set_option maxRecDepth 20000 in
theorem m_409 : Cond.code y_Ma_floorDiv b_Ma_floorDiv 3 (some .int) ∈ WL := List.mem_filter.mpr ⟨List.mem_of_getElem? (i := 409) rfl, rfl⟩
set_option maxRecDepth 20000 in
theorem m_410 : Cond.methodLink R_La 118 y_La_thickness ∈ WL := List.mem_filter.mpr ⟨List.mem_of_getElem? (i := 410) rfl, rfl⟩
set_option maxRecDepth 20000 in
theorem m_411 : Cond.static y_La_thickness ∈ WL := List.mem_filter.mpr ⟨List.mem_of_getElem? (i := 411) rfl, rfl⟩
set_option maxRecDepth 20000 in
theorem m_413 : Cond.methodLink R_La 34 y_Cc_thickness ∈ WL := List.mem_filter.mpr ⟨List.mem_of_getElem? (i := 413) rfl, rfl⟩
set_option maxRecDepth 20000 in
theorem m_414 : Cond.instanceMethod y_Cc_thickness ∈ WL := List.mem_filter.mpr ⟨List.mem_of_getElem? (i := 414) rfl, rfl⟩
set_option maxRecDepth 20000 in
theorem m_415 : Cond.selects R_Cc y_Cc_thickness y_Cc_thickness ∈ WL := List.mem_filter.mpr ⟨List.mem_of_getElem? (i := 415) rfl, rfl⟩
set_option maxRecDepth 20000 in
theorem m_416 : Cond.code y_Cc_thickness b_Cc_thickness 4 (some .int) ∈ WL := List.mem_filter.mpr ⟨List.mem_of_getElem? (i := 416) rfl, rfl⟩
set_option maxRecDepth 20000 in
theorem m_417 : Cond.methodLink R_Cc 77 y_Fo_leastThickness ∈ WL := List.mem_filter.mpr ⟨List.mem_of_getElem? (i := 417) rfl, rfl⟩
set_option maxRecDepth 20000 in
theorem m_418 : Cond.instanceMethod y_Fo_leastThickness ∈ WL := List.mem_filter.mpr ⟨List.mem_of_getElem? (i := 418) rfl, rfl⟩
set_option maxRecDepth 20000 in
theorem m_419 : Cond.selects R_Fo y_Fo_leastThickness y_Fo_leastThickness ∈ WL := List.mem_filter.mpr ⟨List.mem_of_getElem? (i := 419) rfl, rfl⟩
set_option maxRecDepth 20000 in
theorem m_420 : Cond.code y_Fo_leastThickness b_Fo_leastThickness 9 (some .int) ∈ WL := List.mem_filter.mpr ⟨List.mem_of_getElem? (i := 420) rfl, rfl⟩
set_option maxRecDepth 20000 in
theorem m_421 : Cond.methodLink R_Fo 46 y_Fo_valueAt ∈ WL := List.mem_filter.mpr ⟨List.mem_of_getElem? (i := 421) rfl, rfl⟩
set_option maxRecDepth 20000 in
theorem m_422 : Cond.methodLink R_La 121 y_La_pack ∈ WL := List.mem_filter.mpr ⟨List.mem_of_getElem? (i := 422) rfl, rfl⟩
set_option maxRecDepth 20000 in
theorem m_423 : Cond.static y_La_pack ∈ WL := List.mem_filter.mpr ⟨List.mem_of_getElem? (i := 423) rfl, rfl⟩
set_option maxRecDepth 20000 in
theorem m_425 : Cond.methodLink R_La 37 y_Cc_pack ∈ WL := List.mem_filter.mpr ⟨List.mem_of_getElem? (i := 425) rfl, rfl⟩
set_option maxRecDepth 20000 in
theorem m_426 : Cond.instanceMethod y_Cc_pack ∈ WL := List.mem_filter.mpr ⟨List.mem_of_getElem? (i := 426) rfl, rfl⟩
set_option maxRecDepth 20000 in
theorem m_427 : Cond.selects R_Cc y_Cc_pack y_Cc_pack ∈ WL := List.mem_filter.mpr ⟨List.mem_of_getElem? (i := 427) rfl, rfl⟩
set_option maxRecDepth 20000 in
theorem m_428 : Cond.code y_Cc_pack b_Cc_pack 3 (some .int) ∈ WL := List.mem_filter.mpr ⟨List.mem_of_getElem? (i := 428) rfl, rfl⟩
set_option maxRecDepth 20000 in
theorem m_429 : Cond.methodLink R_Cc 80 y_Pk_packSet ∈ WL := List.mem_filter.mpr ⟨List.mem_of_getElem? (i := 429) rfl, rfl⟩
set_option maxRecDepth 20000 in
theorem m_430 : Cond.instanceMethod y_Pk_packSet ∈ WL := List.mem_filter.mpr ⟨List.mem_of_getElem? (i := 430) rfl, rfl⟩
set_option maxRecDepth 20000 in
theorem m_431 : Cond.selects R_Pk y_Pk_packSet y_Pk_packSet ∈ WL := List.mem_filter.mpr ⟨List.mem_of_getElem? (i := 431) rfl, rfl⟩
set_option maxRecDepth 20000 in
theorem m_432 : Cond.code y_Pk_packSet b_Pk_packSet 5 (some .int) ∈ WL := List.mem_filter.mpr ⟨List.mem_of_getElem? (i := 432) rfl, rfl⟩
set_option maxRecDepth 20000 in
theorem m_433 : Cond.classLink R_Pk 34 "java/lang/IndexOutOfBoundsException" ∈ WL := List.mem_filter.mpr ⟨List.mem_of_getElem? (i := 433) rfl, rfl⟩
set_option maxRecDepth 20000 in
theorem m_435 : Cond.methodLink R_Pk 38 ⟨"java/lang/IndexOutOfBoundsException", "<init>", "(Ljava/lang/String;)V"⟩ ∈ WL := List.mem_filter.mpr ⟨List.mem_of_getElem? (i := 435) rfl, rfl⟩
set_option maxRecDepth 20000 in
theorem m_436 : Cond.classLink R_Pk 41 "java/lang/IllegalArgumentException" ∈ WL := List.mem_filter.mpr ⟨List.mem_of_getElem? (i := 436) rfl, rfl⟩
set_option maxRecDepth 20000 in
theorem m_438 : Cond.methodLink R_Pk 45 ⟨"java/lang/IllegalArgumentException", "<init>", "(Ljava/lang/String;)V"⟩ ∈ WL := List.mem_filter.mpr ⟨List.mem_of_getElem? (i := 438) rfl, rfl⟩
set_option maxRecDepth 20000 in
theorem m_440 : Cond.methodLink R_Pk 50 y_Pk_isIn ∈ WL := List.mem_filter.mpr ⟨List.mem_of_getElem? (i := 440) rfl, rfl⟩
set_option maxRecDepth 20000 in
theorem m_441 : Cond.static y_Pk_isIn ∈ WL := List.mem_filter.mpr ⟨List.mem_of_getElem? (i := 441) rfl, rfl⟩
set_option maxRecDepth 20000 in
theorem m_442 : Cond.code y_Pk_isIn b_Pk_isIn 2 (some .boolean) ∈ WL := List.mem_filter.mpr ⟨List.mem_of_getElem? (i := 442) rfl, rfl⟩
set_option maxRecDepth 20000 in
theorem m_443 : Cond.methodLink R_Pk 54 y_Go_mayStandAnyhow ∈ WL := List.mem_filter.mpr ⟨List.mem_of_getElem? (i := 443) rfl, rfl⟩
set_option maxRecDepth 20000 in
theorem m_444 : Cond.instanceMethod y_Go_mayStandAnyhow ∈ WL := List.mem_filter.mpr ⟨List.mem_of_getElem? (i := 444) rfl, rfl⟩
set_option maxRecDepth 20000 in
theorem m_445 : Cond.selects R_Go y_Go_mayStandAnyhow y_Go_mayStandAnyhow ∈ WL := List.mem_filter.mpr ⟨List.mem_of_getElem? (i := 445) rfl, rfl⟩
set_option maxRecDepth 20000 in
theorem m_446 : Cond.code y_Go_mayStandAnyhow b_Go_mayStandAnyhow 2 (some .boolean) ∈ WL := List.mem_filter.mpr ⟨List.mem_of_getElem? (i := 446) rfl, rfl⟩
set_option maxRecDepth 20000 in
theorem m_447 : Cond.methodLink R_Pk 64 y_Pk_findLeast ∈ WL := List.mem_filter.mpr ⟨List.mem_of_getElem? (i := 447) rfl, rfl⟩
set_option maxRecDepth 20000 in
theorem m_449 : Cond.instanceMethod y_Pk_findLeast ∈ WL := List.mem_filter.mpr ⟨List.mem_of_getElem? (i := 449) rfl, rfl⟩
set_option maxRecDepth 20000 in
theorem m_450 : Cond.code y_Pk_findLeast b_Pk_findLeast 5 (Option.none : Option Jvm.ClassFile.FieldType) ∈ WL := List.mem_filter.mpr ⟨List.mem_of_getElem? (i := 450) rfl, rfl⟩
set_option maxRecDepth 20000 in
theorem m_451 : Cond.constantLong R_Pk 93 9223372036854775807 ∈ WL := List.mem_filter.mpr ⟨List.mem_of_getElem? (i := 451) rfl, rfl⟩
set_option maxRecDepth 20000 in
theorem m_452 : Cond.methodLink R_Pk 100 y_Pk_tryWithin ∈ WL := List.mem_filter.mpr ⟨List.mem_of_getElem? (i := 452) rfl, rfl⟩
set_option maxRecDepth 20000 in
theorem m_454 : Cond.instanceMethod y_Pk_tryWithin ∈ WL := List.mem_filter.mpr ⟨List.mem_of_getElem? (i := 454) rfl, rfl⟩
set_option maxRecDepth 20000 in
theorem m_455 : Cond.code y_Pk_tryWithin b_Pk_tryWithin 7 (Option.none : Option Jvm.ClassFile.FieldType) ∈ WL := List.mem_filter.mpr ⟨List.mem_of_getElem? (i := 455) rfl, rfl⟩
set_option maxRecDepth 20000 in
theorem m_456 : Cond.methodLink R_Pk 104 y_Go_shortestWay ∈ WL := List.mem_filter.mpr ⟨List.mem_of_getElem? (i := 456) rfl, rfl⟩
set_option maxRecDepth 20000 in
theorem m_457 : Cond.instanceMethod y_Go_shortestWay ∈ WL := List.mem_filter.mpr ⟨List.mem_of_getElem? (i := 457) rfl, rfl⟩
set_option maxRecDepth 20000 in
theorem m_458 : Cond.selects R_Go y_Go_shortestWay y_Go_shortestWay ∈ WL := List.mem_filter.mpr ⟨List.mem_of_getElem? (i := 458) rfl, rfl⟩
set_option maxRecDepth 20000 in
theorem m_459 : Cond.code y_Go_shortestWay b_Go_shortestWay 9 (some .int) ∈ WL := List.mem_filter.mpr ⟨List.mem_of_getElem? (i := 459) rfl, rfl⟩
set_option maxRecDepth 20000 in
theorem m_460 : Cond.methodLink R_Go 46 y_Go_sizeOf ∈ WL := List.mem_filter.mpr ⟨List.mem_of_getElem? (i := 460) rfl, rfl⟩
set_option maxRecDepth 20000 in
theorem m_461 : Cond.instanceMethod y_Go_sizeOf ∈ WL := List.mem_filter.mpr ⟨List.mem_of_getElem? (i := 461) rfl, rfl⟩
set_option maxRecDepth 20000 in
theorem m_462 : Cond.selects R_Go y_Go_sizeOf y_Go_sizeOf ∈ WL := List.mem_filter.mpr ⟨List.mem_of_getElem? (i := 462) rfl, rfl⟩
set_option maxRecDepth 20000 in
theorem m_463 : Cond.code y_Go_sizeOf b_Go_sizeOf 4 (some .int) ∈ WL := List.mem_filter.mpr ⟨List.mem_of_getElem? (i := 463) rfl, rfl⟩
set_option maxRecDepth 20000 in
theorem m_466 : Cond.methodLink R_Go 50 y_Go_mayStand ∈ WL := List.mem_filter.mpr ⟨List.mem_of_getElem? (i := 466) rfl, rfl⟩
set_option maxRecDepth 20000 in
theorem m_467 : Cond.instanceMethod y_Go_mayStand ∈ WL := List.mem_filter.mpr ⟨List.mem_of_getElem? (i := 467) rfl, rfl⟩
set_option maxRecDepth 20000 in
theorem m_468 : Cond.selects R_Go y_Go_mayStand y_Go_mayStand ∈ WL := List.mem_filter.mpr ⟨List.mem_of_getElem? (i := 468) rfl, rfl⟩
set_option maxRecDepth 20000 in
theorem m_469 : Cond.code y_Go_mayStand b_Go_mayStand 3 (some .boolean) ∈ WL := List.mem_filter.mpr ⟨List.mem_of_getElem? (i := 469) rfl, rfl⟩
set_option maxRecDepth 20000 in
theorem m_470 : Cond.methodLink R_Pk 108 y_Go_sizeOf ∈ WL := List.mem_filter.mpr ⟨List.mem_of_getElem? (i := 470) rfl, rfl⟩
set_option maxRecDepth 20000 in
theorem m_471 : Cond.methodLink R_Pk 111 y_Pk_triedIsLower ∈ WL := List.mem_filter.mpr ⟨List.mem_of_getElem? (i := 471) rfl, rfl⟩
set_option maxRecDepth 20000 in
theorem m_473 : Cond.instanceMethod y_Pk_triedIsLower ∈ WL := List.mem_filter.mpr ⟨List.mem_of_getElem? (i := 473) rfl, rfl⟩
set_option maxRecDepth 20000 in
theorem m_474 : Cond.code y_Pk_triedIsLower b_Pk_triedIsLower 2 (some .boolean) ∈ WL := List.mem_filter.mpr ⟨List.mem_of_getElem? (i := 474) rfl, rfl⟩
set_option maxRecDepth 20000 in
theorem m_475 : Cond.methodLink R_Pk 115 y_Pk_keep ∈ WL := List.mem_filter.mpr ⟨List.mem_of_getElem? (i := 475) rfl, rfl⟩
set_option maxRecDepth 20000 in
theorem m_477 : Cond.instanceMethod y_Pk_keep ∈ WL := List.mem_filter.mpr ⟨List.mem_of_getElem? (i := 477) rfl, rfl⟩
set_option maxRecDepth 20000 in
theorem m_478 : Cond.code y_Pk_keep b_Pk_keep 4 (Option.none : Option Jvm.ClassFile.FieldType) ∈ WL := List.mem_filter.mpr ⟨List.mem_of_getElem? (i := 478) rfl, rfl⟩
set_option maxRecDepth 20000 in
theorem m_479 : Cond.methodLink R_Pk 118 ⟨"java/lang/System", "arraycopy", "(Ljava/lang/Object;ILjava/lang/Object;II)V"⟩ ∈ WL := List.mem_filter.mpr ⟨List.mem_of_getElem? (i := 479) rfl, rfl⟩
set_option maxRecDepth 20000 in
theorem m_480 : Cond.static ⟨"java/lang/System", "arraycopy", "(Ljava/lang/Object;ILjava/lang/Object;II)V"⟩ ∈ WL := List.mem_filter.mpr ⟨List.mem_of_getElem? (i := 480) rfl, rfl⟩
set_option maxRecDepth 20000 in
theorem m_481 : Cond.native ⟨"java/lang/System", "arraycopy", "(Ljava/lang/Object;ILjava/lang/Object;II)V"⟩ ∈ WL := List.mem_filter.mpr ⟨List.mem_of_getElem? (i := 481) rfl, rfl⟩
set_option maxRecDepth 20000 in
theorem m_482 : Cond.methodLink R_Pk 68 y_Pk_placeInRow ∈ WL := List.mem_filter.mpr ⟨List.mem_of_getElem? (i := 482) rfl, rfl⟩
set_option maxRecDepth 20000 in
theorem m_484 : Cond.instanceMethod y_Pk_placeInRow ∈ WL := List.mem_filter.mpr ⟨List.mem_of_getElem? (i := 484) rfl, rfl⟩
set_option maxRecDepth 20000 in
theorem m_485 : Cond.code y_Pk_placeInRow b_Pk_placeInRow 4 (Option.none : Option Jvm.ClassFile.FieldType) ∈ WL := List.mem_filter.mpr ⟨List.mem_of_getElem? (i := 485) rfl, rfl⟩
set_option maxRecDepth 20000 in
theorem m_486 : Cond.methodLink R_Pk 71 y_In_bitCount ∈ WL := List.mem_filter.mpr ⟨List.mem_of_getElem? (i := 486) rfl, rfl⟩
set_option maxRecDepth 20000 in
theorem m_487 : Cond.static y_In_bitCount ∈ WL := List.mem_filter.mpr ⟨List.mem_of_getElem? (i := 487) rfl, rfl⟩
set_option maxRecDepth 20000 in
theorem m_488 : Cond.code y_In_bitCount b_In_bitCount 1 (some .int) ∈ WL := List.mem_filter.mpr ⟨List.mem_of_getElem? (i := 488) rfl, rfl⟩
set_option maxRecDepth 20000 in
theorem m_489 : Cond.constant R_In 265 1431655765 ∈ WL := List.mem_filter.mpr ⟨List.mem_of_getElem? (i := 489) rfl, rfl⟩
set_option maxRecDepth 20000 in
theorem m_490 : Cond.constant R_In 266 858993459 ∈ WL := List.mem_filter.mpr ⟨List.mem_of_getElem? (i := 490) rfl, rfl⟩
set_option maxRecDepth 20000 in
theorem m_491 : Cond.constant R_In 267 252645135 ∈ WL := List.mem_filter.mpr ⟨List.mem_of_getElem? (i := 491) rfl, rfl⟩
set_option maxRecDepth 20000 in
theorem m_492 : Cond.methodLink R_La 124 y_La_size ∈ WL := List.mem_filter.mpr ⟨List.mem_of_getElem? (i := 492) rfl, rfl⟩
set_option maxRecDepth 20000 in
theorem m_493 : Cond.static y_La_size ∈ WL := List.mem_filter.mpr ⟨List.mem_of_getElem? (i := 493) rfl, rfl⟩
set_option maxRecDepth 20000 in
theorem m_495 : Cond.methodLink R_La 40 y_Cc_size ∈ WL := List.mem_filter.mpr ⟨List.mem_of_getElem? (i := 495) rfl, rfl⟩
set_option maxRecDepth 20000 in
theorem m_496 : Cond.instanceMethod y_Cc_size ∈ WL := List.mem_filter.mpr ⟨List.mem_of_getElem? (i := 496) rfl, rfl⟩
set_option maxRecDepth 20000 in
theorem m_497 : Cond.selects R_Cc y_Cc_size y_Cc_size ∈ WL := List.mem_filter.mpr ⟨List.mem_of_getElem? (i := 497) rfl, rfl⟩
set_option maxRecDepth 20000 in
theorem m_498 : Cond.code y_Cc_size b_Cc_size 2 (some .int) ∈ WL := List.mem_filter.mpr ⟨List.mem_of_getElem? (i := 498) rfl, rfl⟩
set_option maxRecDepth 20000 in
theorem m_499 : Cond.methodLink R_Cc 84 y_Pk_sizeAlong ∈ WL := List.mem_filter.mpr ⟨List.mem_of_getElem? (i := 499) rfl, rfl⟩
set_option maxRecDepth 20000 in
theorem m_500 : Cond.instanceMethod y_Pk_sizeAlong ∈ WL := List.mem_filter.mpr ⟨List.mem_of_getElem? (i := 500) rfl, rfl⟩
set_option maxRecDepth 20000 in
theorem m_501 : Cond.selects R_Pk y_Pk_sizeAlong y_Pk_sizeAlong ∈ WL := List.mem_filter.mpr ⟨List.mem_of_getElem? (i := 501) rfl, rfl⟩
set_option maxRecDepth 20000 in
theorem m_502 : Cond.code y_Pk_sizeAlong b_Pk_sizeAlong 2 (some .int) ∈ WL := List.mem_filter.mpr ⟨List.mem_of_getElem? (i := 502) rfl, rfl⟩
set_option maxRecDepth 20000 in
theorem m_504 : Cond.methodLink R_Pk 81 y_Pk_requirePacked ∈ WL := List.mem_filter.mpr ⟨List.mem_of_getElem? (i := 504) rfl, rfl⟩
set_option maxRecDepth 20000 in
theorem m_506 : Cond.instanceMethod y_Pk_requirePacked ∈ WL := List.mem_filter.mpr ⟨List.mem_of_getElem? (i := 506) rfl, rfl⟩
set_option maxRecDepth 20000 in
theorem m_507 : Cond.code y_Pk_requirePacked b_Pk_requirePacked 1 (Option.none : Option Jvm.ClassFile.FieldType) ∈ WL := List.mem_filter.mpr ⟨List.mem_of_getElem? (i := 507) rfl, rfl⟩
set_option maxRecDepth 20000 in
theorem m_508 : Cond.classLink R_Pk 86 "java/lang/IllegalStateException" ∈ WL := List.mem_filter.mpr ⟨List.mem_of_getElem? (i := 508) rfl, rfl⟩
set_option maxRecDepth 20000 in
theorem m_510 : Cond.methodLink R_Pk 90 ⟨"java/lang/IllegalStateException", "<init>", "(Ljava/lang/String;)V"⟩ ∈ WL := List.mem_filter.mpr ⟨List.mem_of_getElem? (i := 510) rfl, rfl⟩
set_option maxRecDepth 20000 in
theorem m_511 : Cond.methodLink R_La 128 y_La_at ∈ WL := List.mem_filter.mpr ⟨List.mem_of_getElem? (i := 511) rfl, rfl⟩
set_option maxRecDepth 20000 in
theorem m_512 : Cond.static y_La_at ∈ WL := List.mem_filter.mpr ⟨List.mem_of_getElem? (i := 512) rfl, rfl⟩
set_option maxRecDepth 20000 in
theorem m_514 : Cond.methodLink R_La 44 y_Cc_at ∈ WL := List.mem_filter.mpr ⟨List.mem_of_getElem? (i := 514) rfl, rfl⟩
set_option maxRecDepth 20000 in
theorem m_515 : Cond.instanceMethod y_Cc_at ∈ WL := List.mem_filter.mpr ⟨List.mem_of_getElem? (i := 515) rfl, rfl⟩
set_option maxRecDepth 20000 in
theorem m_516 : Cond.selects R_Cc y_Cc_at y_Cc_at ∈ WL := List.mem_filter.mpr ⟨List.mem_of_getElem? (i := 516) rfl, rfl⟩
set_option maxRecDepth 20000 in
theorem m_517 : Cond.code y_Cc_at b_Cc_at 3 (some .int) ∈ WL := List.mem_filter.mpr ⟨List.mem_of_getElem? (i := 517) rfl, rfl⟩
set_option maxRecDepth 20000 in
theorem m_518 : Cond.methodLink R_Cc 92 y_Cc_requireIndex ∈ WL := List.mem_filter.mpr ⟨List.mem_of_getElem? (i := 518) rfl, rfl⟩
set_option maxRecDepth 20000 in
theorem m_519 : Cond.methodLink R_Cc 96 y_Pk_tell ∈ WL := List.mem_filter.mpr ⟨List.mem_of_getElem? (i := 519) rfl, rfl⟩
set_option maxRecDepth 20000 in
theorem m_520 : Cond.instanceMethod y_Pk_tell ∈ WL := List.mem_filter.mpr ⟨List.mem_of_getElem? (i := 520) rfl, rfl⟩
set_option maxRecDepth 20000 in
theorem m_521 : Cond.selects R_Pk y_Pk_tell y_Pk_tell ∈ WL := List.mem_filter.mpr ⟨List.mem_of_getElem? (i := 521) rfl, rfl⟩
set_option maxRecDepth 20000 in
theorem m_522 : Cond.code y_Pk_tell b_Pk_tell 3 (some .int) ∈ WL := List.mem_filter.mpr ⟨List.mem_of_getElem? (i := 522) rfl, rfl⟩
set_option maxRecDepth 20000 in
theorem m_524 : Cond.methodLink R_La 131 y_La_crate ∈ WL := List.mem_filter.mpr ⟨List.mem_of_getElem? (i := 524) rfl, rfl⟩
set_option maxRecDepth 20000 in
theorem m_525 : Cond.static y_La_crate ∈ WL := List.mem_filter.mpr ⟨List.mem_of_getElem? (i := 525) rfl, rfl⟩
set_option maxRecDepth 20000 in
theorem m_527 : Cond.methodLink R_La 47 y_Cc_crate ∈ WL := List.mem_filter.mpr ⟨List.mem_of_getElem? (i := 527) rfl, rfl⟩
set_option maxRecDepth 20000 in
theorem m_528 : Cond.instanceMethod y_Cc_crate ∈ WL := List.mem_filter.mpr ⟨List.mem_of_getElem? (i := 528) rfl, rfl⟩
set_option maxRecDepth 20000 in
theorem m_529 : Cond.selects R_Cc y_Cc_crate y_Cc_crate ∈ WL := List.mem_filter.mpr ⟨List.mem_of_getElem? (i := 529) rfl, rfl⟩
set_option maxRecDepth 20000 in
theorem m_530 : Cond.code y_Cc_crate b_Cc_crate 4 (some .int) ∈ WL := List.mem_filter.mpr ⟨List.mem_of_getElem? (i := 530) rfl, rfl⟩
set_option maxRecDepth 20000 in
theorem m_531 : Cond.methodLink R_Cc 99 y_Sk_add ∈ WL := List.mem_filter.mpr ⟨List.mem_of_getElem? (i := 531) rfl, rfl⟩
set_option maxRecDepth 20000 in
theorem m_532 : Cond.instanceMethod y_Sk_add ∈ WL := List.mem_filter.mpr ⟨List.mem_of_getElem? (i := 532) rfl, rfl⟩
set_option maxRecDepth 20000 in
theorem m_533 : Cond.selects R_Sk y_Sk_add y_Sk_add ∈ WL := List.mem_filter.mpr ⟨List.mem_of_getElem? (i := 533) rfl, rfl⟩
set_option maxRecDepth 20000 in
theorem m_534 : Cond.code y_Sk_add b_Sk_add 4 (some .int) ∈ WL := List.mem_filter.mpr ⟨List.mem_of_getElem? (i := 534) rfl, rfl⟩
set_option maxRecDepth 20000 in
theorem m_537 : Cond.methodLink R_La 134 y_La_match ∈ WL := List.mem_filter.mpr ⟨List.mem_of_getElem? (i := 537) rfl, rfl⟩
set_option maxRecDepth 20000 in
theorem m_538 : Cond.static y_La_match ∈ WL := List.mem_filter.mpr ⟨List.mem_of_getElem? (i := 538) rfl, rfl⟩
set_option maxRecDepth 20000 in
theorem m_540 : Cond.methodLink R_La 50 y_Cc_match ∈ WL := List.mem_filter.mpr ⟨List.mem_of_getElem? (i := 540) rfl, rfl⟩
set_option maxRecDepth 20000 in
theorem m_541 : Cond.instanceMethod y_Cc_match ∈ WL := List.mem_filter.mpr ⟨List.mem_of_getElem? (i := 541) rfl, rfl⟩
set_option maxRecDepth 20000 in
theorem m_542 : Cond.selects R_Cc y_Cc_match y_Cc_match ∈ WL := List.mem_filter.mpr ⟨List.mem_of_getElem? (i := 542) rfl, rfl⟩
set_option maxRecDepth 20000 in
theorem m_543 : Cond.code y_Cc_match b_Cc_match 1 (some .int) ∈ WL := List.mem_filter.mpr ⟨List.mem_of_getElem? (i := 543) rfl, rfl⟩
set_option maxRecDepth 20000 in
theorem m_544 : Cond.methodLink R_Cc 101 y_Sk_takeFor ∈ WL := List.mem_filter.mpr ⟨List.mem_of_getElem? (i := 544) rfl, rfl⟩
set_option maxRecDepth 20000 in
theorem m_545 : Cond.instanceMethod y_Sk_takeFor ∈ WL := List.mem_filter.mpr ⟨List.mem_of_getElem? (i := 545) rfl, rfl⟩
set_option maxRecDepth 20000 in
theorem m_546 : Cond.selects R_Sk y_Sk_takeFor y_Sk_takeFor ∈ WL := List.mem_filter.mpr ⟨List.mem_of_getElem? (i := 546) rfl, rfl⟩
set_option maxRecDepth 20000 in
theorem m_547 : Cond.code y_Sk_takeFor b_Sk_takeFor 10 (some .int) ∈ WL := List.mem_filter.mpr ⟨List.mem_of_getElem? (i := 547) rfl, rfl⟩
set_option maxRecDepth 20000 in
theorem m_548 : Cond.constantLong R_Sk 39 9223372036854775807 ∈ WL := List.mem_filter.mpr ⟨List.mem_of_getElem? (i := 548) rfl, rfl⟩
set_option maxRecDepth 20000 in
theorem m_549 : Cond.methodLink R_Sk 41 y_Sk_hasRoom ∈ WL := List.mem_filter.mpr ⟨List.mem_of_getElem? (i := 549) rfl, rfl⟩
set_option maxRecDepth 20000 in
theorem m_551 : Cond.instanceMethod y_Sk_hasRoom ∈ WL := List.mem_filter.mpr ⟨List.mem_of_getElem? (i := 551) rfl, rfl⟩
set_option maxRecDepth 20000 in
theorem m_552 : Cond.code y_Sk_hasRoom b_Sk_hasRoom 7 (some .boolean) ∈ WL := List.mem_filter.mpr ⟨List.mem_of_getElem? (i := 552) rfl, rfl⟩
set_option maxRecDepth 20000 in
theorem m_553 : Cond.methodLink R_La 138 y_La_free ∈ WL := List.mem_filter.mpr ⟨List.mem_of_getElem? (i := 553) rfl, rfl⟩
set_option maxRecDepth 20000 in
theorem m_554 : Cond.static y_La_free ∈ WL := List.mem_filter.mpr ⟨List.mem_of_getElem? (i := 554) rfl, rfl⟩
set_option maxRecDepth 20000 in
theorem m_556 : Cond.methodLink R_La 54 y_Cc_free ∈ WL := List.mem_filter.mpr ⟨List.mem_of_getElem? (i := 556) rfl, rfl⟩
set_option maxRecDepth 20000 in
theorem m_557 : Cond.instanceMethod y_Cc_free ∈ WL := List.mem_filter.mpr ⟨List.mem_of_getElem? (i := 557) rfl, rfl⟩
set_option maxRecDepth 20000 in
theorem m_558 : Cond.selects R_Cc y_Cc_free y_Cc_free ∈ WL := List.mem_filter.mpr ⟨List.mem_of_getElem? (i := 558) rfl, rfl⟩
set_option maxRecDepth 20000 in
theorem m_559 : Cond.code y_Cc_free b_Cc_free 2 (some .boolean) ∈ WL := List.mem_filter.mpr ⟨List.mem_of_getElem? (i := 559) rfl, rfl⟩
set_option maxRecDepth 20000 in
theorem m_560 : Cond.methodLink R_Cc 104 y_Sk_release ∈ WL := List.mem_filter.mpr ⟨List.mem_of_getElem? (i := 560) rfl, rfl⟩
set_option maxRecDepth 20000 in
theorem m_561 : Cond.instanceMethod y_Sk_release ∈ WL := List.mem_filter.mpr ⟨List.mem_of_getElem? (i := 561) rfl, rfl⟩
set_option maxRecDepth 20000 in
theorem m_562 : Cond.selects R_Sk y_Sk_release y_Sk_release ∈ WL := List.mem_filter.mpr ⟨List.mem_of_getElem? (i := 562) rfl, rfl⟩
set_option maxRecDepth 20000 in
theorem m_563 : Cond.code y_Sk_release b_Sk_release 3 (some .boolean) ∈ WL := List.mem_filter.mpr ⟨List.mem_of_getElem? (i := 563) rfl, rfl⟩
set_option maxRecDepth 20000 in
theorem m_565 : Cond.methodLink R_La 141 y_La_split ∈ WL := List.mem_filter.mpr ⟨List.mem_of_getElem? (i := 565) rfl, rfl⟩
set_option maxRecDepth 20000 in
theorem m_566 : Cond.static y_La_split ∈ WL := List.mem_filter.mpr ⟨List.mem_of_getElem? (i := 566) rfl, rfl⟩
set_option maxRecDepth 20000 in
theorem m_568 : Cond.methodLink R_La 58 y_Cc_split ∈ WL := List.mem_filter.mpr ⟨List.mem_of_getElem? (i := 568) rfl, rfl⟩
set_option maxRecDepth 20000 in
theorem m_569 : Cond.instanceMethod y_Cc_split ∈ WL := List.mem_filter.mpr ⟨List.mem_of_getElem? (i := 569) rfl, rfl⟩
set_option maxRecDepth 20000 in
theorem m_570 : Cond.selects R_Cc y_Cc_split y_Cc_split ∈ WL := List.mem_filter.mpr ⟨List.mem_of_getElem? (i := 570) rfl, rfl⟩
set_option maxRecDepth 20000 in
theorem m_571 : Cond.code y_Cc_split b_Cc_split 2 (some .int) ∈ WL := List.mem_filter.mpr ⟨List.mem_of_getElem? (i := 571) rfl, rfl⟩
set_option maxRecDepth 20000 in
theorem m_572 : Cond.methodLink R_Cc 108 y_Go_leastCrates ∈ WL := List.mem_filter.mpr ⟨List.mem_of_getElem? (i := 572) rfl, rfl⟩
set_option maxRecDepth 20000 in
theorem m_573 : Cond.instanceMethod y_Go_leastCrates ∈ WL := List.mem_filter.mpr ⟨List.mem_of_getElem? (i := 573) rfl, rfl⟩
set_option maxRecDepth 20000 in
theorem m_574 : Cond.selects R_Go y_Go_leastCrates y_Go_leastCrates ∈ WL := List.mem_filter.mpr ⟨List.mem_of_getElem? (i := 574) rfl, rfl⟩
set_option maxRecDepth 20000 in
theorem m_575 : Cond.code y_Go_leastCrates b_Go_leastCrates 4 (some .int) ∈ WL := List.mem_filter.mpr ⟨List.mem_of_getElem? (i := 575) rfl, rfl⟩
set_option maxRecDepth 20000 in
theorem m_576 : Cond.classLink R_Go 54 "java/lang/IllegalArgumentException" ∈ WL := List.mem_filter.mpr ⟨List.mem_of_getElem? (i := 576) rfl, rfl⟩
set_option maxRecDepth 20000 in
theorem m_578 : Cond.methodLink R_Go 58 ⟨"java/lang/IllegalArgumentException", "<init>", "(Ljava/lang/String;)V"⟩ ∈ WL := List.mem_filter.mpr ⟨List.mem_of_getElem? (i := 578) rfl, rfl⟩
set_option maxRecDepth 20000 in
theorem m_579 : Cond.methodLink R_Go 61 y_Go_partSet ∈ WL := List.mem_filter.mpr ⟨List.mem_of_getElem? (i := 579) rfl, rfl⟩
set_option maxRecDepth 20000 in
theorem m_581 : Cond.instanceMethod y_Go_partSet ∈ WL := List.mem_filter.mpr ⟨List.mem_of_getElem? (i := 581) rfl, rfl⟩
set_option maxRecDepth 20000 in
theorem m_582 : Cond.code y_Go_partSet b_Go_partSet 10 (Option.none : Option Jvm.ClassFile.FieldType) ∈ WL := List.mem_filter.mpr ⟨List.mem_of_getElem? (i := 582) rfl, rfl⟩
set_option maxRecDepth 20000 in
theorem m_583 : Cond.methodLink R_La 144 y_La_lag ∈ WL := List.mem_filter.mpr ⟨List.mem_of_getElem? (i := 583) rfl, rfl⟩
set_option maxRecDepth 20000 in
theorem m_584 : Cond.static y_La_lag ∈ WL := List.mem_filter.mpr ⟨List.mem_of_getElem? (i := 584) rfl, rfl⟩
set_option maxRecDepth 20000 in
theorem m_586 : Cond.methodLink R_La 61 y_Cc_lag ∈ WL := List.mem_filter.mpr ⟨List.mem_of_getElem? (i := 586) rfl, rfl⟩
set_option maxRecDepth 20000 in
theorem m_587 : Cond.instanceMethod y_Cc_lag ∈ WL := List.mem_filter.mpr ⟨List.mem_of_getElem? (i := 587) rfl, rfl⟩
set_option maxRecDepth 20000 in
theorem m_588 : Cond.selects R_Cc y_Cc_lag y_Cc_lag ∈ WL := List.mem_filter.mpr ⟨List.mem_of_getElem? (i := 588) rfl, rfl⟩
set_option maxRecDepth 20000 in
theorem m_589 : Cond.code y_Cc_lag b_Cc_lag 2 (some .int) ∈ WL := List.mem_filter.mpr ⟨List.mem_of_getElem? (i := 589) rfl, rfl⟩
set_option maxRecDepth 20000 in
theorem m_590 : Cond.methodLink R_Cc 111 y_Ai_setLag ∈ WL := List.mem_filter.mpr ⟨List.mem_of_getElem? (i := 590) rfl, rfl⟩
set_option maxRecDepth 20000 in
theorem m_591 : Cond.instanceMethod y_Ai_setLag ∈ WL := List.mem_filter.mpr ⟨List.mem_of_getElem? (i := 591) rfl, rfl⟩
set_option maxRecDepth 20000 in
theorem m_592 : Cond.selects R_Ai y_Ai_setLag y_Ai_setLag ∈ WL := List.mem_filter.mpr ⟨List.mem_of_getElem? (i := 592) rfl, rfl⟩
set_option maxRecDepth 20000 in
theorem m_593 : Cond.code y_Ai_setLag b_Ai_setLag 3 (some .int) ∈ WL := List.mem_filter.mpr ⟨List.mem_of_getElem? (i := 593) rfl, rfl⟩
set_option maxRecDepth 20000 in
theorem m_595 : Cond.methodLink R_La 147 y_La_climate ∈ WL := List.mem_filter.mpr ⟨List.mem_of_getElem? (i := 595) rfl, rfl⟩
set_option maxRecDepth 20000 in
theorem m_596 : Cond.static y_La_climate ∈ WL := List.mem_filter.mpr ⟨List.mem_of_getElem? (i := 596) rfl, rfl⟩
set_option maxRecDepth 20000 in
theorem m_598 : Cond.methodLink R_La 64 y_Cc_climate ∈ WL := List.mem_filter.mpr ⟨List.mem_of_getElem? (i := 598) rfl, rfl⟩
set_option maxRecDepth 20000 in
theorem m_599 : Cond.instanceMethod y_Cc_climate ∈ WL := List.mem_filter.mpr ⟨List.mem_of_getElem? (i := 599) rfl, rfl⟩
set_option maxRecDepth 20000 in
theorem m_600 : Cond.selects R_Cc y_Cc_climate y_Cc_climate ∈ WL := List.mem_filter.mpr ⟨List.mem_of_getElem? (i := 600) rfl, rfl⟩
set_option maxRecDepth 20000 in
theorem m_601 : Cond.code y_Cc_climate b_Cc_climate 2 (some .int) ∈ WL := List.mem_filter.mpr ⟨List.mem_of_getElem? (i := 601) rfl, rfl⟩
set_option maxRecDepth 20000 in
theorem m_602 : Cond.methodLink R_Cc 114 y_Ai_nextHour ∈ WL := List.mem_filter.mpr ⟨List.mem_of_getElem? (i := 602) rfl, rfl⟩
set_option maxRecDepth 20000 in
theorem m_603 : Cond.instanceMethod y_Ai_nextHour ∈ WL := List.mem_filter.mpr ⟨List.mem_of_getElem? (i := 603) rfl, rfl⟩
set_option maxRecDepth 20000 in
theorem m_604 : Cond.selects R_Ai y_Ai_nextHour y_Ai_nextHour ∈ WL := List.mem_filter.mpr ⟨List.mem_of_getElem? (i := 604) rfl, rfl⟩
set_option maxRecDepth 20000 in
theorem m_605 : Cond.code y_Ai_nextHour b_Ai_nextHour 4 (some .int) ∈ WL := List.mem_filter.mpr ⟨List.mem_of_getElem? (i := 605) rfl, rfl⟩
set_option maxRecDepth 20000 in
theorem m_607 : Cond.methodLink R_Ai 30 y_Ma_max ∈ WL := List.mem_filter.mpr ⟨List.mem_of_getElem? (i := 607) rfl, rfl⟩
set_option maxRecDepth 20000 in
theorem m_608 : Cond.static y_Ma_max ∈ WL := List.mem_filter.mpr ⟨List.mem_of_getElem? (i := 608) rfl, rfl⟩
set_option maxRecDepth 20000 in
theorem m_609 : Cond.code y_Ma_max b_Ma_max 2 (some .int) ∈ WL := List.mem_filter.mpr ⟨List.mem_of_getElem? (i := 609) rfl, rfl⟩
set_option maxRecDepth 20000 in
theorem m_610 : Cond.methodLink R_Ai 36 y_Ma_floorDiv ∈ WL := List.mem_filter.mpr ⟨List.mem_of_getElem? (i := 610) rfl, rfl⟩
set_option maxRecDepth 20000 in
theorem m_611 : Cond.methodLink R_La 150 y_La_inside ∈ WL := List.mem_filter.mpr ⟨List.mem_of_getElem? (i := 611) rfl, rfl⟩
set_option maxRecDepth 20000 in
theorem m_612 : Cond.static y_La_inside ∈ WL := List.mem_filter.mpr ⟨List.mem_of_getElem? (i := 612) rfl, rfl⟩
set_option maxRecDepth 20000 in
theorem m_614 : Cond.methodLink R_La 67 y_Cc_inside ∈ WL := List.mem_filter.mpr ⟨List.mem_of_getElem? (i := 614) rfl, rfl⟩
set_option maxRecDepth 20000 in
theorem m_615 : Cond.instanceMethod y_Cc_inside ∈ WL := List.mem_filter.mpr ⟨List.mem_of_getElem? (i := 615) rfl, rfl⟩
set_option maxRecDepth 20000 in
theorem m_616 : Cond.selects R_Cc y_Cc_inside y_Cc_inside ∈ WL := List.mem_filter.mpr ⟨List.mem_of_getElem? (i := 616) rfl, rfl⟩
set_option maxRecDepth 20000 in
theorem m_617 : Cond.code y_Cc_inside b_Cc_inside 2 (some .int) ∈ WL := List.mem_filter.mpr ⟨List.mem_of_getElem? (i := 617) rfl, rfl⟩
set_option maxRecDepth 20000 in
theorem m_618 : Cond.methodLink R_Cc 117 y_Ai_afterHour ∈ WL := List.mem_filter.mpr ⟨List.mem_of_getElem? (i := 618) rfl, rfl⟩
set_option maxRecDepth 20000 in
theorem m_619 : Cond.instanceMethod y_Ai_afterHour ∈ WL := List.mem_filter.mpr ⟨List.mem_of_getElem? (i := 619) rfl, rfl⟩
set_option maxRecDepth 20000 in
theorem m_620 : Cond.selects R_Ai y_Ai_afterHour y_Ai_afterHour ∈ WL := List.mem_filter.mpr ⟨List.mem_of_getElem? (i := 620) rfl, rfl⟩
set_option maxRecDepth 20000 in
theorem m_621 : Cond.code y_Ai_afterHour b_Ai_afterHour 2 (some .int) ∈ WL := List.mem_filter.mpr ⟨List.mem_of_getElem? (i := 621) rfl, rfl⟩
set_option maxRecDepth 20000 in
theorem m_623 : Cond.methodLink R_La 153 y_La_steady ∈ WL := List.mem_filter.mpr ⟨List.mem_of_getElem? (i := 623) rfl, rfl⟩
set_option maxRecDepth 20000 in
theorem m_624 : Cond.static y_La_steady ∈ WL := List.mem_filter.mpr ⟨List.mem_of_getElem? (i := 624) rfl, rfl⟩
set_option maxRecDepth 20000 in
theorem m_626 : Cond.methodLink R_La 70 y_Cc_steady ∈ WL := List.mem_filter.mpr ⟨List.mem_of_getElem? (i := 626) rfl, rfl⟩
set_option maxRecDepth 20000 in
theorem m_627 : Cond.instanceMethod y_Cc_steady ∈ WL := List.mem_filter.mpr ⟨List.mem_of_getElem? (i := 627) rfl, rfl⟩
set_option maxRecDepth 20000 in
theorem m_628 : Cond.selects R_Cc y_Cc_steady y_Cc_steady ∈ WL := List.mem_filter.mpr ⟨List.mem_of_getElem? (i := 628) rfl, rfl⟩
set_option maxRecDepth 20000 in
theorem m_629 : Cond.code y_Cc_steady b_Cc_steady 3 (some .int) ∈ WL := List.mem_filter.mpr ⟨List.mem_of_getElem? (i := 629) rfl, rfl⟩
set_option maxRecDepth 20000 in
theorem m_630 : Cond.methodLink R_Cc 120 y_Ai_longestWithin ∈ WL := List.mem_filter.mpr ⟨List.mem_of_getElem? (i := 630) rfl, rfl⟩
set_option maxRecDepth 20000 in
theorem m_631 : Cond.instanceMethod y_Ai_longestWithin ∈ WL := List.mem_filter.mpr ⟨List.mem_of_getElem? (i := 631) rfl, rfl⟩
set_option maxRecDepth 20000 in
theorem m_632 : Cond.selects R_Ai y_Ai_longestWithin y_Ai_longestWithin ∈ WL := List.mem_filter.mpr ⟨List.mem_of_getElem? (i := 632) rfl, rfl⟩
set_option maxRecDepth 20000 in
theorem m_633 : Cond.code y_Ai_longestWithin b_Ai_longestWithin 7 (some .int) ∈ WL := List.mem_filter.mpr ⟨List.mem_of_getElem? (i := 633) rfl, rfl⟩
set_option maxRecDepth 20000 in
theorem m_634 : Cond.classLink R_Ai 42 "java/lang/IllegalArgumentException" ∈ WL := List.mem_filter.mpr ⟨List.mem_of_getElem? (i := 634) rfl, rfl⟩
set_option maxRecDepth 20000 in
theorem m_636 : Cond.methodLink R_Ai 46 ⟨"java/lang/IllegalArgumentException", "<init>", "(Ljava/lang/String;)V"⟩ ∈ WL := List.mem_filter.mpr ⟨List.mem_of_getElem? (i := 636) rfl, rfl⟩
set_option maxRecDepth 20000 in
theorem m_637 : Cond.methodLink R_La 156 y_La_limit ∈ WL := List.mem_filter.mpr ⟨List.mem_of_getElem? (i := 637) rfl, rfl⟩
set_option maxRecDepth 20000 in
theorem m_638 : Cond.static y_La_limit ∈ WL := List.mem_filter.mpr ⟨List.mem_of_getElem? (i := 638) rfl, rfl⟩
set_option maxRecDepth 20000 in
theorem m_640 : Cond.methodLink R_La 73 y_Cc_limit ∈ WL := List.mem_filter.mpr ⟨List.mem_of_getElem? (i := 640) rfl, rfl⟩
set_option maxRecDepth 20000 in
theorem m_641 : Cond.instanceMethod y_Cc_limit ∈ WL := List.mem_filter.mpr ⟨List.mem_of_getElem? (i := 641) rfl, rfl⟩
set_option maxRecDepth 20000 in
theorem m_642 : Cond.selects R_Cc y_Cc_limit y_Cc_limit ∈ WL := List.mem_filter.mpr ⟨List.mem_of_getElem? (i := 642) rfl, rfl⟩
set_option maxRecDepth 20000 in
theorem m_643 : Cond.code y_Cc_limit b_Cc_limit 3 (Option.none : Option Jvm.ClassFile.FieldType) ∈ WL := List.mem_filter.mpr ⟨List.mem_of_getElem? (i := 643) rfl, rfl⟩
set_option maxRecDepth 20000 in
theorem m_644 : Cond.methodLink R_Cc 123 y_Sh_allow ∈ WL := List.mem_filter.mpr ⟨List.mem_of_getElem? (i := 644) rfl, rfl⟩
set_option maxRecDepth 20000 in
theorem m_645 : Cond.instanceMethod y_Sh_allow ∈ WL := List.mem_filter.mpr ⟨List.mem_of_getElem? (i := 645) rfl, rfl⟩
set_option maxRecDepth 20000 in
theorem m_646 : Cond.selects R_Sh y_Sh_allow y_Sh_allow ∈ WL := List.mem_filter.mpr ⟨List.mem_of_getElem? (i := 646) rfl, rfl⟩
set_option maxRecDepth 20000 in
theorem m_647 : Cond.code y_Sh_allow b_Sh_allow 3 (Option.none : Option Jvm.ClassFile.FieldType) ∈ WL := List.mem_filter.mpr ⟨List.mem_of_getElem? (i := 647) rfl, rfl⟩
set_option maxRecDepth 20000 in
theorem m_649 : Cond.methodLink R_La 160 y_La_shock ∈ WL := List.mem_filter.mpr ⟨List.mem_of_getElem? (i := 649) rfl, rfl⟩
set_option maxRecDepth 20000 in
theorem m_650 : Cond.static y_La_shock ∈ WL := List.mem_filter.mpr ⟨List.mem_of_getElem? (i := 650) rfl, rfl⟩
set_option maxRecDepth 20000 in
theorem m_652 : Cond.methodLink R_La 77 y_Cc_shock ∈ WL := List.mem_filter.mpr ⟨List.mem_of_getElem? (i := 652) rfl, rfl⟩
set_option maxRecDepth 20000 in
theorem m_653 : Cond.instanceMethod y_Cc_shock ∈ WL := List.mem_filter.mpr ⟨List.mem_of_getElem? (i := 653) rfl, rfl⟩
set_option maxRecDepth 20000 in
theorem m_654 : Cond.selects R_Cc y_Cc_shock y_Cc_shock ∈ WL := List.mem_filter.mpr ⟨List.mem_of_getElem? (i := 654) rfl, rfl⟩
set_option maxRecDepth 20000 in
theorem m_655 : Cond.code y_Cc_shock b_Cc_shock 3 (some .boolean) ∈ WL := List.mem_filter.mpr ⟨List.mem_of_getElem? (i := 655) rfl, rfl⟩
set_option maxRecDepth 20000 in
theorem m_656 : Cond.methodLink R_Cc 126 y_Sh_add ∈ WL := List.mem_filter.mpr ⟨List.mem_of_getElem? (i := 656) rfl, rfl⟩
set_option maxRecDepth 20000 in
theorem m_657 : Cond.instanceMethod y_Sh_add ∈ WL := List.mem_filter.mpr ⟨List.mem_of_getElem? (i := 657) rfl, rfl⟩
set_option maxRecDepth 20000 in
theorem m_658 : Cond.selects R_Sh y_Sh_add y_Sh_add ∈ WL := List.mem_filter.mpr ⟨List.mem_of_getElem? (i := 658) rfl, rfl⟩
set_option maxRecDepth 20000 in
theorem m_659 : Cond.code y_Sh_add b_Sh_add 4 (some .boolean) ∈ WL := List.mem_filter.mpr ⟨List.mem_of_getElem? (i := 659) rfl, rfl⟩
set_option maxRecDepth 20000 in
theorem m_660 : Cond.methodLink R_La 163 y_La_route ∈ WL := List.mem_filter.mpr ⟨List.mem_of_getElem? (i := 660) rfl, rfl⟩
set_option maxRecDepth 20000 in
theorem m_661 : Cond.static y_La_route ∈ WL := List.mem_filter.mpr ⟨List.mem_of_getElem? (i := 661) rfl, rfl⟩
set_option maxRecDepth 20000 in
theorem m_663 : Cond.methodLink R_La 81 y_Cc_route ∈ WL := List.mem_filter.mpr ⟨List.mem_of_getElem? (i := 663) rfl, rfl⟩
set_option maxRecDepth 20000 in
theorem m_664 : Cond.instanceMethod y_Cc_route ∈ WL := List.mem_filter.mpr ⟨List.mem_of_getElem? (i := 664) rfl, rfl⟩
set_option maxRecDepth 20000 in
theorem m_665 : Cond.selects R_Cc y_Cc_route y_Cc_route ∈ WL := List.mem_filter.mpr ⟨List.mem_of_getElem? (i := 665) rfl, rfl⟩
set_option maxRecDepth 20000 in
theorem m_666 : Cond.code y_Cc_route b_Cc_route 3 (some .int) ∈ WL := List.mem_filter.mpr ⟨List.mem_of_getElem? (i := 666) rfl, rfl⟩
set_option maxRecDepth 20000 in
theorem m_667 : Cond.methodLink R_Cc 129 y_Jo_plan ∈ WL := List.mem_filter.mpr ⟨List.mem_of_getElem? (i := 667) rfl, rfl⟩
set_option maxRecDepth 20000 in
theorem m_668 : Cond.instanceMethod y_Jo_plan ∈ WL := List.mem_filter.mpr ⟨List.mem_of_getElem? (i := 668) rfl, rfl⟩
set_option maxRecDepth 20000 in
theorem m_669 : Cond.selects R_Jo y_Jo_plan y_Jo_plan ∈ WL := List.mem_filter.mpr ⟨List.mem_of_getElem? (i := 669) rfl, rfl⟩
set_option maxRecDepth 20000 in
theorem m_670 : Cond.code y_Jo_plan b_Jo_plan 6 (some .int) ∈ WL := List.mem_filter.mpr ⟨List.mem_of_getElem? (i := 670) rfl, rfl⟩
set_option maxRecDepth 20000 in
theorem m_671 : Cond.constant R_Jo 19 65536 ∈ WL := List.mem_filter.mpr ⟨List.mem_of_getElem? (i := 671) rfl, rfl⟩
set_option maxRecDepth 20000 in
theorem m_673 : Cond.constant R_Jo 24 65537 ∈ WL := List.mem_filter.mpr ⟨List.mem_of_getElem? (i := 673) rfl, rfl⟩
set_option maxRecDepth 20000 in
theorem m_674 : Cond.methodLink R_La 166 y_La_drop ∈ WL := List.mem_filter.mpr ⟨List.mem_of_getElem? (i := 674) rfl, rfl⟩
set_option maxRecDepth 20000 in
theorem m_675 : Cond.static y_La_drop ∈ WL := List.mem_filter.mpr ⟨List.mem_of_getElem? (i := 675) rfl, rfl⟩
set_option maxRecDepth 20000 in
theorem m_677 : Cond.methodLink R_La 84 y_Cc_drop ∈ WL := List.mem_filter.mpr ⟨List.mem_of_getElem? (i := 677) rfl, rfl⟩
set_option maxRecDepth 20000 in
theorem m_678 : Cond.instanceMethod y_Cc_drop ∈ WL := List.mem_filter.mpr ⟨List.mem_of_getElem? (i := 678) rfl, rfl⟩
set_option maxRecDepth 20000 in
theorem m_679 : Cond.selects R_Cc y_Cc_drop y_Cc_drop ∈ WL := List.mem_filter.mpr ⟨List.mem_of_getElem? (i := 679) rfl, rfl⟩
set_option maxRecDepth 20000 in
theorem m_680 : Cond.code y_Cc_drop b_Cc_drop 2 (some .int) ∈ WL := List.mem_filter.mpr ⟨List.mem_of_getElem? (i := 680) rfl, rfl⟩
set_option maxRecDepth 20000 in
theorem m_681 : Cond.methodLink R_Cc 132 y_Jo_dropOf ∈ WL := List.mem_filter.mpr ⟨List.mem_of_getElem? (i := 681) rfl, rfl⟩
set_option maxRecDepth 20000 in
theorem m_682 : Cond.instanceMethod y_Jo_dropOf ∈ WL := List.mem_filter.mpr ⟨List.mem_of_getElem? (i := 682) rfl, rfl⟩
set_option maxRecDepth 20000 in
theorem m_683 : Cond.selects R_Jo y_Jo_dropOf y_Jo_dropOf ∈ WL := List.mem_filter.mpr ⟨List.mem_of_getElem? (i := 683) rfl, rfl⟩
set_option maxRecDepth 20000 in
theorem m_684 : Cond.code y_Jo_dropOf b_Jo_dropOf 2 (some .int) ∈ WL := List.mem_filter.mpr ⟨List.mem_of_getElem? (i := 684) rfl, rfl⟩
set_option maxRecDepth 20000 in
theorem m_686 : Cond.methodLink R_La 169 y_La_count ∈ WL := List.mem_filter.mpr ⟨List.mem_of_getElem? (i := 686) rfl, rfl⟩
set_option maxRecDepth 20000 in
theorem m_687 : Cond.static y_La_count ∈ WL := List.mem_filter.mpr ⟨List.mem_of_getElem? (i := 687) rfl, rfl⟩
set_option maxRecDepth 20000 in
theorem m_689 : Cond.methodLink R_La 87 y_Cc_count ∈ WL := List.mem_filter.mpr ⟨List.mem_of_getElem? (i := 689) rfl, rfl⟩
set_option maxRecDepth 20000 in
theorem m_690 : Cond.instanceMethod y_Cc_count ∈ WL := List.mem_filter.mpr ⟨List.mem_of_getElem? (i := 690) rfl, rfl⟩
set_option maxRecDepth 20000 in
theorem m_691 : Cond.selects R_Cc y_Cc_count y_Cc_count ∈ WL := List.mem_filter.mpr ⟨List.mem_of_getElem? (i := 691) rfl, rfl⟩
set_option maxRecDepth 20000 in
theorem m_692 : Cond.code y_Cc_count b_Cc_count 2 (some .int) ∈ WL := List.mem_filter.mpr ⟨List.mem_of_getElem? (i := 692) rfl, rfl⟩
set_option maxRecDepth 20000 in
theorem m_693 : Cond.methodLink R_Cc 136 y_Sk_takenCount ∈ WL := List.mem_filter.mpr ⟨List.mem_of_getElem? (i := 693) rfl, rfl⟩
set_option maxRecDepth 20000 in
theorem m_694 : Cond.instanceMethod y_Sk_takenCount ∈ WL := List.mem_filter.mpr ⟨List.mem_of_getElem? (i := 694) rfl, rfl⟩
set_option maxRecDepth 20000 in
theorem m_695 : Cond.selects R_Sk y_Sk_takenCount y_Sk_takenCount ∈ WL := List.mem_filter.mpr ⟨List.mem_of_getElem? (i := 695) rfl, rfl⟩
set_option maxRecDepth 20000 in
theorem m_696 : Cond.code y_Sk_takenCount b_Sk_takenCount 3 (some .int) ∈ WL := List.mem_filter.mpr ⟨List.mem_of_getElem? (i := 696) rfl, rfl⟩
set_option maxRecDepth 20000 in
theorem m_698 : Cond.classLink R_La 91 R_Mo ∈ WL := List.mem_filter.mpr ⟨List.mem_of_getElem? (i := 698) rfl, rfl⟩
set_option maxRecDepth 20000 in
theorem m_699 : Cond.instantiable R_Mo 31 ∈ WL := List.mem_filter.mpr ⟨List.mem_of_getElem? (i := 699) rfl, rfl⟩
set_option maxRecDepth 20000 in
theorem m_700 : Cond.methodLink R_La 93 y_Mo_init ∈ WL := List.mem_filter.mpr ⟨List.mem_of_getElem? (i := 700) rfl, rfl⟩
set_option maxRecDepth 20000 in
theorem m_701 : Cond.instanceMethod y_Mo_init ∈ WL := List.mem_filter.mpr ⟨List.mem_of_getElem? (i := 701) rfl, rfl⟩
set_option maxRecDepth 20000 in
theorem m_702 : Cond.code y_Mo_init b_Mo_init 2 (Option.none : Option Jvm.ClassFile.FieldType) ∈ WL := List.mem_filter.mpr ⟨List.mem_of_getElem? (i := 702) rfl, rfl⟩
set_option maxRecDepth 20000 in
theorem m_703 : Cond.methodLink R_Mo 1 ⟨"java/lang/Object", "<init>", "()V"⟩ ∈ WL := List.mem_filter.mpr ⟨List.mem_of_getElem? (i := 703) rfl, rfl⟩
set_option maxRecDepth 20000 in
theorem m_704 : Cond.fieldLink R_Mo 60 R_Mo "thrown" "I" ∈ WL := List.mem_filter.mpr ⟨List.mem_of_getElem? (i := 704) rfl, rfl⟩
set_option maxRecDepth 20000 in
theorem m_705 : Cond.fieldLink R_Mo 63 R_Mo "objects" "I" ∈ WL := List.mem_filter.mpr ⟨List.mem_of_getElem? (i := 705) rfl, rfl⟩
set_option maxRecDepth 20000 in
theorem m_706 : Cond.fieldLink R_Mo 7 R_Mo "sizes" "[I" ∈ WL := List.mem_filter.mpr ⟨List.mem_of_getElem? (i := 706) rfl, rfl⟩
set_option maxRecDepth 20000 in
theorem m_707 : Cond.fieldLink R_Mo 13 R_Mo "grams" "[I" ∈ WL := List.mem_filter.mpr ⟨List.mem_of_getElem? (i := 707) rfl, rfl⟩
set_option maxRecDepth 20000 in
theorem m_708 : Cond.fieldLink R_Mo 16 R_Mo "weak" "[Z" ∈ WL := List.mem_filter.mpr ⟨List.mem_of_getElem? (i := 708) rfl, rfl⟩
set_option maxRecDepth 20000 in
theorem m_709 : Cond.fieldLink R_Mo 20 R_Mo "rows" "[I" ∈ WL := List.mem_filter.mpr ⟨List.mem_of_getElem? (i := 709) rfl, rfl⟩
set_option maxRecDepth 20000 in
theorem m_710 : Cond.fieldLink R_Mo 23 R_Mo "thick" "[I" ∈ WL := List.mem_filter.mpr ⟨List.mem_of_getElem? (i := 710) rfl, rfl⟩
set_option maxRecDepth 20000 in
theorem m_711 : Cond.fieldLink R_Mo 26 R_Mo "points" "[I" ∈ WL := List.mem_filter.mpr ⟨List.mem_of_getElem? (i := 711) rfl, rfl⟩
set_option maxRecDepth 20000 in
theorem m_712 : Cond.fieldLink R_Mo 29 R_Mo "stresses" "[I" ∈ WL := List.mem_filter.mpr ⟨List.mem_of_getElem? (i := 712) rfl, rfl⟩
set_option maxRecDepth 20000 in
theorem m_713 : Cond.fieldLink R_Mo 32 R_Mo "values" "[I" ∈ WL := List.mem_filter.mpr ⟨List.mem_of_getElem? (i := 713) rfl, rfl⟩
set_option maxRecDepth 20000 in
theorem m_714 : Cond.fieldLink R_Mo 124 R_Mo "packed" "Z" ∈ WL := List.mem_filter.mpr ⟨List.mem_of_getElem? (i := 714) rfl, rfl⟩
set_option maxRecDepth 20000 in
theorem m_715 : Cond.fieldLink R_Mo 35 R_Mo "ways" "[I" ∈ WL := List.mem_filter.mpr ⟨List.mem_of_getElem? (i := 715) rfl, rfl⟩
set_option maxRecDepth 20000 in
theorem m_716 : Cond.fieldLink R_Mo 38 R_Mo "tried" "[I" ∈ WL := List.mem_filter.mpr ⟨List.mem_of_getElem? (i := 716) rfl, rfl⟩
set_option maxRecDepth 20000 in
theorem m_717 : Cond.fieldLink R_Mo 121 R_Mo "gap" "I" ∈ WL := List.mem_filter.mpr ⟨List.mem_of_getElem? (i := 717) rfl, rfl⟩
set_option maxRecDepth 20000 in
theorem m_718 : Cond.fieldLink R_Mo 112 R_Mo "crateLength" "I" ∈ WL := List.mem_filter.mpr ⟨List.mem_of_getElem? (i := 718) rfl, rfl⟩
set_option maxRecDepth 20000 in
theorem m_719 : Cond.fieldLink R_Mo 115 R_Mo "crateWidth" "I" ∈ WL := List.mem_filter.mpr ⟨List.mem_of_getElem? (i := 719) rfl, rfl⟩
set_option maxRecDepth 20000 in
theorem m_720 : Cond.fieldLink R_Mo 118 R_Mo "crateHeight" "I" ∈ WL := List.mem_filter.mpr ⟨List.mem_of_getElem? (i := 720) rfl, rfl⟩
set_option maxRecDepth 20000 in
theorem m_721 : Cond.fieldLink R_Mo 41 R_Mo "parts" "[I" ∈ WL := List.mem_filter.mpr ⟨List.mem_of_getElem? (i := 721) rfl, rfl⟩
set_option maxRecDepth 20000 in
theorem m_722 : Cond.fieldLink R_Mo 128 R_Mo "crates" "I" ∈ WL := List.mem_filter.mpr ⟨List.mem_of_getElem? (i := 722) rfl, rfl⟩
set_option maxRecDepth 20000 in
theorem m_723 : Cond.fieldLink R_Mo 44 R_Mo "inner" "[I" ∈ WL := List.mem_filter.mpr ⟨List.mem_of_getElem? (i := 723) rfl, rfl⟩
set_option maxRecDepth 20000 in
theorem m_724 : Cond.fieldLink R_Mo 47 R_Mo "taken" "[Z" ∈ WL := List.mem_filter.mpr ⟨List.mem_of_getElem? (i := 724) rfl, rfl⟩
set_option maxRecDepth 20000 in
theorem m_725 : Cond.fieldLink R_Mo 138 R_Mo "hours" "I" ∈ WL := List.mem_filter.mpr ⟨List.mem_of_getElem? (i := 725) rfl, rfl⟩
set_option maxRecDepth 20000 in
theorem m_726 : Cond.fieldLink R_Mo 50 R_Mo "insides" "[I" ∈ WL := List.mem_filter.mpr ⟨List.mem_of_getElem? (i := 726) rfl, rfl⟩
set_option maxRecDepth 20000 in
theorem m_727 : Cond.fieldLink R_Mo 53 R_Mo "lag" "I" ∈ WL := List.mem_filter.mpr ⟨List.mem_of_getElem? (i := 727) rfl, rfl⟩
set_option maxRecDepth 20000 in
theorem m_728 : Cond.fieldLink R_Mo 141 R_Mo "peak" "I" ∈ WL := List.mem_filter.mpr ⟨List.mem_of_getElem? (i := 728) rfl, rfl⟩
set_option maxRecDepth 20000 in
theorem m_729 : Cond.fieldLink R_Mo 144 R_Mo "length" "I" ∈ WL := List.mem_filter.mpr ⟨List.mem_of_getElem? (i := 729) rfl, rfl⟩
set_option maxRecDepth 20000 in
theorem m_730 : Cond.fieldLink R_Mo 147 R_Mo "limited" "Z" ∈ WL := List.mem_filter.mpr ⟨List.mem_of_getElem? (i := 730) rfl, rfl⟩
set_option maxRecDepth 20000 in
theorem m_731 : Cond.fieldLink R_Mo 150 R_Mo "shocks" "I" ∈ WL := List.mem_filter.mpr ⟨List.mem_of_getElem? (i := 731) rfl, rfl⟩
set_option maxRecDepth 20000 in
theorem m_732 : Cond.fieldLink R_Mo 153 R_Mo "told" "I" ∈ WL := List.mem_filter.mpr ⟨List.mem_of_getElem? (i := 732) rfl, rfl⟩
set_option maxRecDepth 20000 in
theorem m_733 : Cond.fieldLink R_Mo 158 R_Mo "legs" "I" ∈ WL := List.mem_filter.mpr ⟨List.mem_of_getElem? (i := 733) rfl, rfl⟩
set_option maxRecDepth 20000 in
theorem m_734 : Cond.fieldLink R_Mo 57 R_Mo "drops" "[I" ∈ WL := List.mem_filter.mpr ⟨List.mem_of_getElem? (i := 734) rfl, rfl⟩
set_option maxRecDepth 20000 in
theorem m_798 : Cond.methodLink R_La 100 y_Mo_thrown ∈ WL := List.mem_filter.mpr ⟨List.mem_of_getElem? (i := 798) rfl, rfl⟩
set_option maxRecDepth 20000 in
theorem m_799 : Cond.instanceMethod y_Mo_thrown ∈ WL := List.mem_filter.mpr ⟨List.mem_of_getElem? (i := 799) rfl, rfl⟩
set_option maxRecDepth 20000 in
theorem m_800 : Cond.selects R_Mo y_Mo_thrown y_Mo_thrown ∈ WL := List.mem_filter.mpr ⟨List.mem_of_getElem? (i := 800) rfl, rfl⟩
set_option maxRecDepth 20000 in
theorem m_801 : Cond.code y_Mo_thrown b_Mo_thrown 1 (some .int) ∈ WL := List.mem_filter.mpr ⟨List.mem_of_getElem? (i := 801) rfl, rfl⟩
set_option maxRecDepth 20000 in
theorem m_802 : Cond.methodLink R_La 99 y_Mo_object ∈ WL := List.mem_filter.mpr ⟨List.mem_of_getElem? (i := 802) rfl, rfl⟩
set_option maxRecDepth 20000 in
theorem m_803 : Cond.instanceMethod y_Mo_object ∈ WL := List.mem_filter.mpr ⟨List.mem_of_getElem? (i := 803) rfl, rfl⟩
set_option maxRecDepth 20000 in
theorem m_804 : Cond.selects R_Mo y_Mo_object y_Mo_object ∈ WL := List.mem_filter.mpr ⟨List.mem_of_getElem? (i := 804) rfl, rfl⟩
set_option maxRecDepth 20000 in
theorem m_805 : Cond.code y_Mo_object b_Mo_object 5 (some .int) ∈ WL := List.mem_filter.mpr ⟨List.mem_of_getElem? (i := 805) rfl, rfl⟩
set_option maxRecDepth 20000 in
theorem m_806 : Cond.methodLink R_Mo 66 y_Mo_within ∈ WL := List.mem_filter.mpr ⟨List.mem_of_getElem? (i := 806) rfl, rfl⟩
set_option maxRecDepth 20000 in
theorem m_807 : Cond.static y_Mo_within ∈ WL := List.mem_filter.mpr ⟨List.mem_of_getElem? (i := 807) rfl, rfl⟩
set_option maxRecDepth 20000 in
theorem m_808 : Cond.code y_Mo_within b_Mo_within 3 (some .boolean) ∈ WL := List.mem_filter.mpr ⟨List.mem_of_getElem? (i := 808) rfl, rfl⟩
set_option maxRecDepth 20000 in
theorem m_809 : Cond.constant R_Mo 70 100000 ∈ WL := List.mem_filter.mpr ⟨List.mem_of_getElem? (i := 809) rfl, rfl⟩
set_option maxRecDepth 20000 in
theorem m_810 : Cond.methodLink R_Mo 71 y_Mo_goes ∈ WL := List.mem_filter.mpr ⟨List.mem_of_getElem? (i := 810) rfl, rfl⟩
set_option maxRecDepth 20000 in
theorem m_812 : Cond.instanceMethod y_Mo_goes ∈ WL := List.mem_filter.mpr ⟨List.mem_of_getElem? (i := 812) rfl, rfl⟩
set_option maxRecDepth 20000 in
theorem m_813 : Cond.code y_Mo_goes b_Mo_goes 4 (some .boolean) ∈ WL := List.mem_filter.mpr ⟨List.mem_of_getElem? (i := 813) rfl, rfl⟩
set_option maxRecDepth 20000 in
theorem m_814 : Cond.methodLink R_La 106 y_Mo_weak ∈ WL := List.mem_filter.mpr ⟨List.mem_of_getElem? (i := 814) rfl, rfl⟩
set_option maxRecDepth 20000 in
theorem m_815 : Cond.instanceMethod y_Mo_weak ∈ WL := List.mem_filter.mpr ⟨List.mem_of_getElem? (i := 815) rfl, rfl⟩
set_option maxRecDepth 20000 in
theorem m_816 : Cond.selects R_Mo y_Mo_weak y_Mo_weak ∈ WL := List.mem_filter.mpr ⟨List.mem_of_getElem? (i := 816) rfl, rfl⟩
set_option maxRecDepth 20000 in
theorem m_817 : Cond.code y_Mo_weak b_Mo_weak 5 (some .boolean) ∈ WL := List.mem_filter.mpr ⟨List.mem_of_getElem? (i := 817) rfl, rfl⟩
set_option maxRecDepth 20000 in
theorem m_818 : Cond.methodLink R_Mo 75 y_Mo_isObject ∈ WL := List.mem_filter.mpr ⟨List.mem_of_getElem? (i := 818) rfl, rfl⟩
set_option maxRecDepth 20000 in
theorem m_820 : Cond.instanceMethod y_Mo_isObject ∈ WL := List.mem_filter.mpr ⟨List.mem_of_getElem? (i := 820) rfl, rfl⟩
set_option maxRecDepth 20000 in
theorem m_821 : Cond.code y_Mo_isObject b_Mo_isObject 2 (some .boolean) ∈ WL := List.mem_filter.mpr ⟨List.mem_of_getElem? (i := 821) rfl, rfl⟩
set_option maxRecDepth 20000 in
theorem m_822 : Cond.methodLink R_La 110 y_Mo_foam ∈ WL := List.mem_filter.mpr ⟨List.mem_of_getElem? (i := 822) rfl, rfl⟩
set_option maxRecDepth 20000 in
theorem m_823 : Cond.instanceMethod y_Mo_foam ∈ WL := List.mem_filter.mpr ⟨List.mem_of_getElem? (i := 823) rfl, rfl⟩
set_option maxRecDepth 20000 in
theorem m_824 : Cond.selects R_Mo y_Mo_foam y_Mo_foam ∈ WL := List.mem_filter.mpr ⟨List.mem_of_getElem? (i := 824) rfl, rfl⟩
set_option maxRecDepth 20000 in
theorem m_825 : Cond.code y_Mo_foam b_Mo_foam 5 (some .int) ∈ WL := List.mem_filter.mpr ⟨List.mem_of_getElem? (i := 825) rfl, rfl⟩
set_option maxRecDepth 20000 in
theorem m_826 : Cond.methodLink R_La 113 y_Mo_point ∈ WL := List.mem_filter.mpr ⟨List.mem_of_getElem? (i := 826) rfl, rfl⟩
set_option maxRecDepth 20000 in
theorem m_827 : Cond.instanceMethod y_Mo_point ∈ WL := List.mem_filter.mpr ⟨List.mem_of_getElem? (i := 827) rfl, rfl⟩
set_option maxRecDepth 20000 in
theorem m_828 : Cond.selects R_Mo y_Mo_point y_Mo_point ∈ WL := List.mem_filter.mpr ⟨List.mem_of_getElem? (i := 828) rfl, rfl⟩
set_option maxRecDepth 20000 in
theorem m_829 : Cond.code y_Mo_point b_Mo_point 9 (some .int) ∈ WL := List.mem_filter.mpr ⟨List.mem_of_getElem? (i := 829) rfl, rfl⟩
set_option maxRecDepth 20000 in
theorem m_830 : Cond.methodLink R_Mo 79 y_Mo_isRow ∈ WL := List.mem_filter.mpr ⟨List.mem_of_getElem? (i := 830) rfl, rfl⟩
set_option maxRecDepth 20000 in
theorem m_832 : Cond.instanceMethod y_Mo_isRow ∈ WL := List.mem_filter.mpr ⟨List.mem_of_getElem? (i := 832) rfl, rfl⟩
set_option maxRecDepth 20000 in
theorem m_833 : Cond.code y_Mo_isRow b_Mo_isRow 3 (some .boolean) ∈ WL := List.mem_filter.mpr ⟨List.mem_of_getElem? (i := 833) rfl, rfl⟩
set_option maxRecDepth 20000 in
theorem m_834 : Cond.methodLink R_La 117 y_Mo_value ∈ WL := List.mem_filter.mpr ⟨List.mem_of_getElem? (i := 834) rfl, rfl⟩
set_option maxRecDepth 20000 in
theorem m_835 : Cond.instanceMethod y_Mo_value ∈ WL := List.mem_filter.mpr ⟨List.mem_of_getElem? (i := 835) rfl, rfl⟩
set_option maxRecDepth 20000 in
theorem m_836 : Cond.selects R_Mo y_Mo_value y_Mo_value ∈ WL := List.mem_filter.mpr ⟨List.mem_of_getElem? (i := 836) rfl, rfl⟩
set_option maxRecDepth 20000 in
theorem m_837 : Cond.code y_Mo_value b_Mo_value 4 (some .int) ∈ WL := List.mem_filter.mpr ⟨List.mem_of_getElem? (i := 837) rfl, rfl⟩
set_option maxRecDepth 20000 in
theorem m_838 : Cond.methodLink R_Mo 87 y_Mo_valueOf ∈ WL := List.mem_filter.mpr ⟨List.mem_of_getElem? (i := 838) rfl, rfl⟩
set_option maxRecDepth 20000 in
theorem m_840 : Cond.instanceMethod y_Mo_valueOf ∈ WL := List.mem_filter.mpr ⟨List.mem_of_getElem? (i := 840) rfl, rfl⟩
set_option maxRecDepth 20000 in
theorem m_841 : Cond.code y_Mo_valueOf b_Mo_valueOf 4 (some .int) ∈ WL := List.mem_filter.mpr ⟨List.mem_of_getElem? (i := 841) rfl, rfl⟩
set_option maxRecDepth 20000 in
theorem m_842 : Cond.methodLink R_Mo 83 y_Mo_up ∈ WL := List.mem_filter.mpr ⟨List.mem_of_getElem? (i := 842) rfl, rfl⟩
set_option maxRecDepth 20000 in
theorem m_843 : Cond.static y_Mo_up ∈ WL := List.mem_filter.mpr ⟨List.mem_of_getElem? (i := 843) rfl, rfl⟩
set_option maxRecDepth 20000 in
theorem m_844 : Cond.code y_Mo_up b_Mo_up 3 (some .int) ∈ WL := List.mem_filter.mpr ⟨List.mem_of_getElem? (i := 844) rfl, rfl⟩
set_option maxRecDepth 20000 in
theorem m_845 : Cond.methodLink R_La 120 y_Mo_thickness ∈ WL := List.mem_filter.mpr ⟨List.mem_of_getElem? (i := 845) rfl, rfl⟩
set_option maxRecDepth 20000 in
theorem m_846 : Cond.instanceMethod y_Mo_thickness ∈ WL := List.mem_filter.mpr ⟨List.mem_of_getElem? (i := 846) rfl, rfl⟩
set_option maxRecDepth 20000 in
theorem m_847 : Cond.selects R_Mo y_Mo_thickness y_Mo_thickness ∈ WL := List.mem_filter.mpr ⟨List.mem_of_getElem? (i := 847) rfl, rfl⟩
set_option maxRecDepth 20000 in
theorem m_848 : Cond.code y_Mo_thickness b_Mo_thickness 9 (some .int) ∈ WL := List.mem_filter.mpr ⟨List.mem_of_getElem? (i := 848) rfl, rfl⟩
set_option maxRecDepth 20000 in
theorem m_849 : Cond.methodLink R_La 123 y_Mo_pack ∈ WL := List.mem_filter.mpr ⟨List.mem_of_getElem? (i := 849) rfl, rfl⟩
set_option maxRecDepth 20000 in
theorem m_850 : Cond.instanceMethod y_Mo_pack ∈ WL := List.mem_filter.mpr ⟨List.mem_of_getElem? (i := 850) rfl, rfl⟩
set_option maxRecDepth 20000 in
theorem m_851 : Cond.selects R_Mo y_Mo_pack y_Mo_pack ∈ WL := List.mem_filter.mpr ⟨List.mem_of_getElem? (i := 851) rfl, rfl⟩
set_option maxRecDepth 20000 in
theorem m_852 : Cond.code y_Mo_pack b_Mo_pack 11 (some .int) ∈ WL := List.mem_filter.mpr ⟨List.mem_of_getElem? (i := 852) rfl, rfl⟩
set_option maxRecDepth 20000 in
theorem m_853 : Cond.methodLink R_Mo 90 y_Mo_isIn ∈ WL := List.mem_filter.mpr ⟨List.mem_of_getElem? (i := 853) rfl, rfl⟩
set_option maxRecDepth 20000 in
theorem m_854 : Cond.static y_Mo_isIn ∈ WL := List.mem_filter.mpr ⟨List.mem_of_getElem? (i := 854) rfl, rfl⟩
set_option maxRecDepth 20000 in
theorem m_855 : Cond.code y_Mo_isIn b_Mo_isIn 2 (some .boolean) ∈ WL := List.mem_filter.mpr ⟨List.mem_of_getElem? (i := 855) rfl, rfl⟩
set_option maxRecDepth 20000 in
theorem m_856 : Cond.constantLong R_Mo 97 (-1) ∈ WL := List.mem_filter.mpr ⟨List.mem_of_getElem? (i := 856) rfl, rfl⟩
set_option maxRecDepth 20000 in
theorem m_857 : Cond.methodLink R_Mo 99 y_Mo_turn ∈ WL := List.mem_filter.mpr ⟨List.mem_of_getElem? (i := 857) rfl, rfl⟩
set_option maxRecDepth 20000 in
theorem m_859 : Cond.instanceMethod y_Mo_turn ∈ WL := List.mem_filter.mpr ⟨List.mem_of_getElem? (i := 859) rfl, rfl⟩
set_option maxRecDepth 20000 in
theorem m_860 : Cond.code y_Mo_turn b_Mo_turn 5 (Option.none : Option Jvm.ClassFile.FieldType) ∈ WL := List.mem_filter.mpr ⟨List.mem_of_getElem? (i := 860) rfl, rfl⟩
set_option maxRecDepth 20000 in
theorem m_861 : Cond.methodLink R_Mo 103 y_Mo_stands ∈ WL := List.mem_filter.mpr ⟨List.mem_of_getElem? (i := 861) rfl, rfl⟩
set_option maxRecDepth 20000 in
theorem m_863 : Cond.instanceMethod y_Mo_stands ∈ WL := List.mem_filter.mpr ⟨List.mem_of_getElem? (i := 863) rfl, rfl⟩
set_option maxRecDepth 20000 in
theorem m_864 : Cond.code y_Mo_stands b_Mo_stands 4 (some .boolean) ∈ WL := List.mem_filter.mpr ⟨List.mem_of_getElem? (i := 864) rfl, rfl⟩
set_option maxRecDepth 20000 in
theorem m_865 : Cond.methodLink R_Mo 106 y_Mo_lengthOf ∈ WL := List.mem_filter.mpr ⟨List.mem_of_getElem? (i := 865) rfl, rfl⟩
set_option maxRecDepth 20000 in
theorem m_867 : Cond.instanceMethod y_Mo_lengthOf ∈ WL := List.mem_filter.mpr ⟨List.mem_of_getElem? (i := 867) rfl, rfl⟩
set_option maxRecDepth 20000 in
theorem m_868 : Cond.code y_Mo_lengthOf b_Mo_lengthOf 5 (some .int) ∈ WL := List.mem_filter.mpr ⟨List.mem_of_getElem? (i := 868) rfl, rfl⟩
set_option maxRecDepth 20000 in
theorem m_869 : Cond.methodLink R_Mo 93 y_Mo_along ∈ WL := List.mem_filter.mpr ⟨List.mem_of_getElem? (i := 869) rfl, rfl⟩
set_option maxRecDepth 20000 in
theorem m_871 : Cond.instanceMethod y_Mo_along ∈ WL := List.mem_filter.mpr ⟨List.mem_of_getElem? (i := 871) rfl, rfl⟩
set_option maxRecDepth 20000 in
theorem m_872 : Cond.code y_Mo_along b_Mo_along 6 (some .int) ∈ WL := List.mem_filter.mpr ⟨List.mem_of_getElem? (i := 872) rfl, rfl⟩
set_option maxRecDepth 20000 in
theorem m_873 : Cond.methodLink R_Mo 109 y_Mo_widest ∈ WL := List.mem_filter.mpr ⟨List.mem_of_getElem? (i := 873) rfl, rfl⟩
set_option maxRecDepth 20000 in
theorem m_875 : Cond.instanceMethod y_Mo_widest ∈ WL := List.mem_filter.mpr ⟨List.mem_of_getElem? (i := 875) rfl, rfl⟩
set_option maxRecDepth 20000 in
theorem m_876 : Cond.code y_Mo_widest b_Mo_widest 7 (some .int) ∈ WL := List.mem_filter.mpr ⟨List.mem_of_getElem? (i := 876) rfl, rfl⟩
set_option maxRecDepth 20000 in
theorem m_877 : Cond.methodLink R_La 127 y_Mo_size ∈ WL := List.mem_filter.mpr ⟨List.mem_of_getElem? (i := 877) rfl, rfl⟩
set_option maxRecDepth 20000 in
theorem m_878 : Cond.instanceMethod y_Mo_size ∈ WL := List.mem_filter.mpr ⟨List.mem_of_getElem? (i := 878) rfl, rfl⟩
set_option maxRecDepth 20000 in
theorem m_879 : Cond.selects R_Mo y_Mo_size y_Mo_size ∈ WL := List.mem_filter.mpr ⟨List.mem_of_getElem? (i := 879) rfl, rfl⟩
set_option maxRecDepth 20000 in
theorem m_880 : Cond.code y_Mo_size b_Mo_size 2 (some .int) ∈ WL := List.mem_filter.mpr ⟨List.mem_of_getElem? (i := 880) rfl, rfl⟩
set_option maxRecDepth 20000 in
theorem m_881 : Cond.methodLink R_La 130 y_Mo_at ∈ WL := List.mem_filter.mpr ⟨List.mem_of_getElem? (i := 881) rfl, rfl⟩
set_option maxRecDepth 20000 in
theorem m_882 : Cond.instanceMethod y_Mo_at ∈ WL := List.mem_filter.mpr ⟨List.mem_of_getElem? (i := 882) rfl, rfl⟩
set_option maxRecDepth 20000 in
theorem m_883 : Cond.selects R_Mo y_Mo_at y_Mo_at ∈ WL := List.mem_filter.mpr ⟨List.mem_of_getElem? (i := 883) rfl, rfl⟩
set_option maxRecDepth 20000 in
theorem m_884 : Cond.code y_Mo_at b_Mo_at 5 (some .int) ∈ WL := List.mem_filter.mpr ⟨List.mem_of_getElem? (i := 884) rfl, rfl⟩
set_option maxRecDepth 20000 in
theorem m_885 : Cond.methodLink R_La 133 y_Mo_crate ∈ WL := List.mem_filter.mpr ⟨List.mem_of_getElem? (i := 885) rfl, rfl⟩
set_option maxRecDepth 20000 in
theorem m_886 : Cond.instanceMethod y_Mo_crate ∈ WL := List.mem_filter.mpr ⟨List.mem_of_getElem? (i := 886) rfl, rfl⟩
set_option maxRecDepth 20000 in
theorem m_887 : Cond.selects R_Mo y_Mo_crate y_Mo_crate ∈ WL := List.mem_filter.mpr ⟨List.mem_of_getElem? (i := 887) rfl, rfl⟩
set_option maxRecDepth 20000 in
theorem m_888 : Cond.code y_Mo_crate b_Mo_crate 4 (some .int) ∈ WL := List.mem_filter.mpr ⟨List.mem_of_getElem? (i := 888) rfl, rfl⟩
set_option maxRecDepth 20000 in
theorem m_889 : Cond.methodLink R_La 137 y_Mo_match ∈ WL := List.mem_filter.mpr ⟨List.mem_of_getElem? (i := 889) rfl, rfl⟩
set_option maxRecDepth 20000 in
theorem m_890 : Cond.instanceMethod y_Mo_match ∈ WL := List.mem_filter.mpr ⟨List.mem_of_getElem? (i := 890) rfl, rfl⟩
set_option maxRecDepth 20000 in
theorem m_891 : Cond.selects R_Mo y_Mo_match y_Mo_match ∈ WL := List.mem_filter.mpr ⟨List.mem_of_getElem? (i := 891) rfl, rfl⟩
set_option maxRecDepth 20000 in
theorem m_892 : Cond.code y_Mo_match b_Mo_match 7 (some .int) ∈ WL := List.mem_filter.mpr ⟨List.mem_of_getElem? (i := 892) rfl, rfl⟩
set_option maxRecDepth 20000 in
theorem m_893 : Cond.methodLink R_Mo 131 y_Mo_hasRoom ∈ WL := List.mem_filter.mpr ⟨List.mem_of_getElem? (i := 893) rfl, rfl⟩
set_option maxRecDepth 20000 in
theorem m_895 : Cond.instanceMethod y_Mo_hasRoom ∈ WL := List.mem_filter.mpr ⟨List.mem_of_getElem? (i := 895) rfl, rfl⟩
set_option maxRecDepth 20000 in
theorem m_896 : Cond.code y_Mo_hasRoom b_Mo_hasRoom 6 (some .boolean) ∈ WL := List.mem_filter.mpr ⟨List.mem_of_getElem? (i := 896) rfl, rfl⟩
set_option maxRecDepth 20000 in
theorem m_897 : Cond.methodLink R_La 140 y_Mo_free ∈ WL := List.mem_filter.mpr ⟨List.mem_of_getElem? (i := 897) rfl, rfl⟩
set_option maxRecDepth 20000 in
theorem m_898 : Cond.instanceMethod y_Mo_free ∈ WL := List.mem_filter.mpr ⟨List.mem_of_getElem? (i := 898) rfl, rfl⟩
set_option maxRecDepth 20000 in
theorem m_899 : Cond.selects R_Mo y_Mo_free y_Mo_free ∈ WL := List.mem_filter.mpr ⟨List.mem_of_getElem? (i := 899) rfl, rfl⟩
set_option maxRecDepth 20000 in
theorem m_900 : Cond.code y_Mo_free b_Mo_free 3 (some .boolean) ∈ WL := List.mem_filter.mpr ⟨List.mem_of_getElem? (i := 900) rfl, rfl⟩
set_option maxRecDepth 20000 in
theorem m_901 : Cond.methodLink R_La 143 y_Mo_split ∈ WL := List.mem_filter.mpr ⟨List.mem_of_getElem? (i := 901) rfl, rfl⟩
set_option maxRecDepth 20000 in
theorem m_902 : Cond.instanceMethod y_Mo_split ∈ WL := List.mem_filter.mpr ⟨List.mem_of_getElem? (i := 902) rfl, rfl⟩
set_option maxRecDepth 20000 in
theorem m_903 : Cond.selects R_Mo y_Mo_split y_Mo_split ∈ WL := List.mem_filter.mpr ⟨List.mem_of_getElem? (i := 903) rfl, rfl⟩
set_option maxRecDepth 20000 in
theorem m_904 : Cond.code y_Mo_split b_Mo_split 6 (some .int) ∈ WL := List.mem_filter.mpr ⟨List.mem_of_getElem? (i := 904) rfl, rfl⟩
set_option maxRecDepth 20000 in
theorem m_905 : Cond.methodLink R_Mo 134 y_Mo_weight ∈ WL := List.mem_filter.mpr ⟨List.mem_of_getElem? (i := 905) rfl, rfl⟩
set_option maxRecDepth 20000 in
theorem m_907 : Cond.instanceMethod y_Mo_weight ∈ WL := List.mem_filter.mpr ⟨List.mem_of_getElem? (i := 907) rfl, rfl⟩
set_option maxRecDepth 20000 in
theorem m_908 : Cond.code y_Mo_weight b_Mo_weight 4 (some .int) ∈ WL := List.mem_filter.mpr ⟨List.mem_of_getElem? (i := 908) rfl, rfl⟩
set_option maxRecDepth 20000 in
theorem m_909 : Cond.methodLink R_La 146 y_Mo_lag ∈ WL := List.mem_filter.mpr ⟨List.mem_of_getElem? (i := 909) rfl, rfl⟩
set_option maxRecDepth 20000 in
theorem m_910 : Cond.instanceMethod y_Mo_lag ∈ WL := List.mem_filter.mpr ⟨List.mem_of_getElem? (i := 910) rfl, rfl⟩
set_option maxRecDepth 20000 in
theorem m_911 : Cond.selects R_Mo y_Mo_lag y_Mo_lag ∈ WL := List.mem_filter.mpr ⟨List.mem_of_getElem? (i := 911) rfl, rfl⟩
set_option maxRecDepth 20000 in
theorem m_912 : Cond.code y_Mo_lag b_Mo_lag 3 (some .int) ∈ WL := List.mem_filter.mpr ⟨List.mem_of_getElem? (i := 912) rfl, rfl⟩
set_option maxRecDepth 20000 in
theorem m_913 : Cond.methodLink R_La 149 y_Mo_climate ∈ WL := List.mem_filter.mpr ⟨List.mem_of_getElem? (i := 913) rfl, rfl⟩
set_option maxRecDepth 20000 in
theorem m_914 : Cond.instanceMethod y_Mo_climate ∈ WL := List.mem_filter.mpr ⟨List.mem_of_getElem? (i := 914) rfl, rfl⟩
set_option maxRecDepth 20000 in
theorem m_915 : Cond.selects R_Mo y_Mo_climate y_Mo_climate ∈ WL := List.mem_filter.mpr ⟨List.mem_of_getElem? (i := 915) rfl, rfl⟩
set_option maxRecDepth 20000 in
theorem m_916 : Cond.code y_Mo_climate b_Mo_climate 3 (some .int) ∈ WL := List.mem_filter.mpr ⟨List.mem_of_getElem? (i := 916) rfl, rfl⟩
set_option maxRecDepth 20000 in
theorem m_917 : Cond.methodLink R_La 152 y_Mo_inside ∈ WL := List.mem_filter.mpr ⟨List.mem_of_getElem? (i := 917) rfl, rfl⟩
set_option maxRecDepth 20000 in
theorem m_918 : Cond.instanceMethod y_Mo_inside ∈ WL := List.mem_filter.mpr ⟨List.mem_of_getElem? (i := 918) rfl, rfl⟩
set_option maxRecDepth 20000 in
theorem m_919 : Cond.selects R_Mo y_Mo_inside y_Mo_inside ∈ WL := List.mem_filter.mpr ⟨List.mem_of_getElem? (i := 919) rfl, rfl⟩
set_option maxRecDepth 20000 in
theorem m_920 : Cond.code y_Mo_inside b_Mo_inside 2 (some .int) ∈ WL := List.mem_filter.mpr ⟨List.mem_of_getElem? (i := 920) rfl, rfl⟩
set_option maxRecDepth 20000 in
theorem m_921 : Cond.methodLink R_La 155 y_Mo_steady ∈ WL := List.mem_filter.mpr ⟨List.mem_of_getElem? (i := 921) rfl, rfl⟩
set_option maxRecDepth 20000 in
theorem m_922 : Cond.instanceMethod y_Mo_steady ∈ WL := List.mem_filter.mpr ⟨List.mem_of_getElem? (i := 922) rfl, rfl⟩
set_option maxRecDepth 20000 in
theorem m_923 : Cond.selects R_Mo y_Mo_steady y_Mo_steady ∈ WL := List.mem_filter.mpr ⟨List.mem_of_getElem? (i := 923) rfl, rfl⟩
set_option maxRecDepth 20000 in
theorem m_924 : Cond.code y_Mo_steady b_Mo_steady 6 (some .int) ∈ WL := List.mem_filter.mpr ⟨List.mem_of_getElem? (i := 924) rfl, rfl⟩
set_option maxRecDepth 20000 in
theorem m_925 : Cond.methodLink R_La 159 y_Mo_limit ∈ WL := List.mem_filter.mpr ⟨List.mem_of_getElem? (i := 925) rfl, rfl⟩
set_option maxRecDepth 20000 in
theorem m_926 : Cond.instanceMethod y_Mo_limit ∈ WL := List.mem_filter.mpr ⟨List.mem_of_getElem? (i := 926) rfl, rfl⟩
set_option maxRecDepth 20000 in
theorem m_927 : Cond.selects R_Mo y_Mo_limit y_Mo_limit ∈ WL := List.mem_filter.mpr ⟨List.mem_of_getElem? (i := 927) rfl, rfl⟩
set_option maxRecDepth 20000 in
theorem m_928 : Cond.code y_Mo_limit b_Mo_limit 3 (Option.none : Option Jvm.ClassFile.FieldType) ∈ WL := List.mem_filter.mpr ⟨List.mem_of_getElem? (i := 928) rfl, rfl⟩
set_option maxRecDepth 20000 in
theorem m_929 : Cond.methodLink R_La 162 y_Mo_shock ∈ WL := List.mem_filter.mpr ⟨List.mem_of_getElem? (i := 929) rfl, rfl⟩
set_option maxRecDepth 20000 in
theorem m_930 : Cond.instanceMethod y_Mo_shock ∈ WL := List.mem_filter.mpr ⟨List.mem_of_getElem? (i := 930) rfl, rfl⟩
set_option maxRecDepth 20000 in
theorem m_931 : Cond.selects R_Mo y_Mo_shock y_Mo_shock ∈ WL := List.mem_filter.mpr ⟨List.mem_of_getElem? (i := 931) rfl, rfl⟩
set_option maxRecDepth 20000 in
theorem m_932 : Cond.code y_Mo_shock b_Mo_shock 4 (some .boolean) ∈ WL := List.mem_filter.mpr ⟨List.mem_of_getElem? (i := 932) rfl, rfl⟩
set_option maxRecDepth 20000 in
theorem m_933 : Cond.methodLink R_La 165 y_Mo_route ∈ WL := List.mem_filter.mpr ⟨List.mem_of_getElem? (i := 933) rfl, rfl⟩
set_option maxRecDepth 20000 in
theorem m_934 : Cond.instanceMethod y_Mo_route ∈ WL := List.mem_filter.mpr ⟨List.mem_of_getElem? (i := 934) rfl, rfl⟩
set_option maxRecDepth 20000 in
theorem m_935 : Cond.selects R_Mo y_Mo_route y_Mo_route ∈ WL := List.mem_filter.mpr ⟨List.mem_of_getElem? (i := 935) rfl, rfl⟩
set_option maxRecDepth 20000 in
theorem m_936 : Cond.code y_Mo_route b_Mo_route 6 (some .int) ∈ WL := List.mem_filter.mpr ⟨List.mem_of_getElem? (i := 936) rfl, rfl⟩
set_option maxRecDepth 20000 in
theorem m_937 : Cond.constant R_Mo 156 65536 ∈ WL := List.mem_filter.mpr ⟨List.mem_of_getElem? (i := 937) rfl, rfl⟩
set_option maxRecDepth 20000 in
theorem m_938 : Cond.constant R_Mo 157 65537 ∈ WL := List.mem_filter.mpr ⟨List.mem_of_getElem? (i := 938) rfl, rfl⟩
set_option maxRecDepth 20000 in
theorem m_939 : Cond.methodLink R_La 168 y_Mo_drop ∈ WL := List.mem_filter.mpr ⟨List.mem_of_getElem? (i := 939) rfl, rfl⟩
set_option maxRecDepth 20000 in
theorem m_940 : Cond.instanceMethod y_Mo_drop ∈ WL := List.mem_filter.mpr ⟨List.mem_of_getElem? (i := 940) rfl, rfl⟩
set_option maxRecDepth 20000 in
theorem m_941 : Cond.selects R_Mo y_Mo_drop y_Mo_drop ∈ WL := List.mem_filter.mpr ⟨List.mem_of_getElem? (i := 941) rfl, rfl⟩
set_option maxRecDepth 20000 in
theorem m_942 : Cond.code y_Mo_drop b_Mo_drop 2 (some .int) ∈ WL := List.mem_filter.mpr ⟨List.mem_of_getElem? (i := 942) rfl, rfl⟩
set_option maxRecDepth 20000 in
theorem m_943 : Cond.methodLink R_La 171 y_Mo_count ∈ WL := List.mem_filter.mpr ⟨List.mem_of_getElem? (i := 943) rfl, rfl⟩
set_option maxRecDepth 20000 in
theorem m_944 : Cond.instanceMethod y_Mo_count ∈ WL := List.mem_filter.mpr ⟨List.mem_of_getElem? (i := 944) rfl, rfl⟩
set_option maxRecDepth 20000 in
theorem m_945 : Cond.selects R_Mo y_Mo_count y_Mo_count ∈ WL := List.mem_filter.mpr ⟨List.mem_of_getElem? (i := 945) rfl, rfl⟩
set_option maxRecDepth 20000 in
theorem m_946 : Cond.code y_Mo_count b_Mo_count 4 (some .int) ∈ WL := List.mem_filter.mpr ⟨List.mem_of_getElem? (i := 946) rfl, rfl⟩
set_option maxRecDepth 20000 in
theorem m_947 : Cond.arrayClass FieldType.long ∈ WL := List.mem_filter.mpr ⟨List.mem_of_getElem? (i := 947) rfl, rfl⟩
end
