def isb (v : Int32) : Bool := decide (v = 0 ∨ v = 1)
theorem isb_n {v : Int32} (h : isb v = true) : narrow .boolean (.int v) = .int v := by
  rcases of_decide_eq_true h with rfl | rfl <;> rfl
def upc (g : St) (k : Nat) (f : Nat → Int32) : St := fun k' => if k' = k then f else g k'

def xv0 { O : Type} (o : Option (Unit)) (k : Option O) : Option O := match o with
  | none => none
  | some () => k 
theorem xv0_i { O : Type} {o : Option (Unit)} {k : Option O} {z : O} (h : xv0 o k = some z) : o = some () ∧ k  = some z := by
  match o, h with
  | some (), h => exact ⟨rfl, h⟩
theorem xv0_s { O : Type} {k : Option O}  : xv0 (some ()) k = k  := rfl
def xc0 { B : Type} (o : Option ((Unit) ⊕ String)) (k : Option (B ⊕ String)) : Option (B ⊕ String) := match o with
  | none => none
  | some (.inl ()) => k 
  | some (.inr E) => some (.inr E)
theorem xc0_i { B : Type} {o : Option ((Unit) ⊕ String)} {k : Option (B ⊕ String)} {z : B ⊕ String} (h : xc0 o k = some z) : (o = some (.inl ()) ∧ k  = some z) ∨ (∃ E, o = some (.inr E) ∧ z = .inr E) := by
  match o, h with
  | some (.inl ()), h => exact Or.inl ⟨rfl, h⟩
  | some (.inr E), h => exact Or.inr ⟨E, rfl, (Option.some.inj h).symm⟩
theorem xc0_l { B : Type} {k : Option (B ⊕ String)}  : xc0 (some (.inl ())) k = k  := rfl
theorem xc0_r { B : Type} {k : Option (B ⊕ String)} {E : String} : xc0 (some (.inr E)) k = some (.inr E) := rfl
def xv1 {A1 O : Type} (o : Option (A1)) (k : A1 → Option O) : Option O := match o with
  | none => none
  | some a1 => k a1
theorem xv1_i {A1 O : Type} {o : Option (A1)} {k : A1 → Option O} {z : O} (h : xv1 o k = some z) : ∃ a1, o = some a1 ∧ k a1 = some z := by
  match o, h with
  | some a1, h => exact ⟨a1, rfl, h⟩
theorem xv1_s {A1 O : Type} {k : A1 → Option O} {a1 : A1} : xv1 (some a1) k = k a1 := rfl
def xc1 {A1 B : Type} (o : Option ((A1) ⊕ String)) (k : A1 → Option (B ⊕ String)) : Option (B ⊕ String) := match o with
  | none => none
  | some (.inl a1) => k a1
  | some (.inr E) => some (.inr E)
theorem xc1_i {A1 B : Type} {o : Option ((A1) ⊕ String)} {k : A1 → Option (B ⊕ String)} {z : B ⊕ String} (h : xc1 o k = some z) : (∃ a1, o = some (.inl a1) ∧ k a1 = some z) ∨ (∃ E, o = some (.inr E) ∧ z = .inr E) := by
  match o, h with
  | some (.inl a1), h => exact Or.inl ⟨a1, rfl, h⟩
  | some (.inr E), h => exact Or.inr ⟨E, rfl, (Option.some.inj h).symm⟩
theorem xc1_l {A1 B : Type} {k : A1 → Option (B ⊕ String)} {a1 : A1} : xc1 (some (.inl a1)) k = k a1 := rfl
theorem xc1_r {A1 B : Type} {k : A1 → Option (B ⊕ String)} {E : String} : xc1 (some (.inr E)) k = some (.inr E) := rfl
def xv2 {A1 A2 O : Type} (o : Option (A1 × A2)) (k : A1 → A2 → Option O) : Option O := match o with
  | none => none
  | some (a1, a2) => k a1 a2
theorem xv2_i {A1 A2 O : Type} {o : Option (A1 × A2)} {k : A1 → A2 → Option O} {z : O} (h : xv2 o k = some z) : ∃ a1 a2, o = some (a1, a2) ∧ k a1 a2 = some z := by
  match o, h with
  | some (a1, a2), h => exact ⟨a1, a2, rfl, h⟩
theorem xv2_s {A1 A2 O : Type} {k : A1 → A2 → Option O} {a1 : A1} {a2 : A2} : xv2 (some (a1, a2)) k = k a1 a2 := rfl
def xc2 {A1 A2 B : Type} (o : Option ((A1 × A2) ⊕ String)) (k : A1 → A2 → Option (B ⊕ String)) : Option (B ⊕ String) := match o with
  | none => none
  | some (.inl (a1, a2)) => k a1 a2
  | some (.inr E) => some (.inr E)
theorem xc2_i {A1 A2 B : Type} {o : Option ((A1 × A2) ⊕ String)} {k : A1 → A2 → Option (B ⊕ String)} {z : B ⊕ String} (h : xc2 o k = some z) : (∃ a1 a2, o = some (.inl (a1, a2)) ∧ k a1 a2 = some z) ∨ (∃ E, o = some (.inr E) ∧ z = .inr E) := by
  match o, h with
  | some (.inl (a1, a2)), h => exact Or.inl ⟨a1, a2, rfl, h⟩
  | some (.inr E), h => exact Or.inr ⟨E, rfl, (Option.some.inj h).symm⟩
theorem xc2_l {A1 A2 B : Type} {k : A1 → A2 → Option (B ⊕ String)} {a1 : A1} {a2 : A2} : xc2 (some (.inl (a1, a2))) k = k a1 a2 := rfl
theorem xc2_r {A1 A2 B : Type} {k : A1 → A2 → Option (B ⊕ String)} {E : String} : xc2 (some (.inr E)) k = some (.inr E) := rfl
def xv3 {A1 A2 A3 O : Type} (o : Option (A1 × A2 × A3)) (k : A1 → A2 → A3 → Option O) : Option O := match o with
  | none => none
  | some (a1, a2, a3) => k a1 a2 a3
theorem xv3_i {A1 A2 A3 O : Type} {o : Option (A1 × A2 × A3)} {k : A1 → A2 → A3 → Option O} {z : O} (h : xv3 o k = some z) : ∃ a1 a2 a3, o = some (a1, a2, a3) ∧ k a1 a2 a3 = some z := by
  match o, h with
  | some (a1, a2, a3), h => exact ⟨a1, a2, a3, rfl, h⟩
theorem xv3_s {A1 A2 A3 O : Type} {k : A1 → A2 → A3 → Option O} {a1 : A1} {a2 : A2} {a3 : A3} : xv3 (some (a1, a2, a3)) k = k a1 a2 a3 := rfl
def xc3 {A1 A2 A3 B : Type} (o : Option ((A1 × A2 × A3) ⊕ String)) (k : A1 → A2 → A3 → Option (B ⊕ String)) : Option (B ⊕ String) := match o with
  | none => none
  | some (.inl (a1, a2, a3)) => k a1 a2 a3
  | some (.inr E) => some (.inr E)
theorem xc3_i {A1 A2 A3 B : Type} {o : Option ((A1 × A2 × A3) ⊕ String)} {k : A1 → A2 → A3 → Option (B ⊕ String)} {z : B ⊕ String} (h : xc3 o k = some z) : (∃ a1 a2 a3, o = some (.inl (a1, a2, a3)) ∧ k a1 a2 a3 = some z) ∨ (∃ E, o = some (.inr E) ∧ z = .inr E) := by
  match o, h with
  | some (.inl (a1, a2, a3)), h => exact Or.inl ⟨a1, a2, a3, rfl, h⟩
  | some (.inr E), h => exact Or.inr ⟨E, rfl, (Option.some.inj h).symm⟩
theorem xc3_l {A1 A2 A3 B : Type} {k : A1 → A2 → A3 → Option (B ⊕ String)} {a1 : A1} {a2 : A2} {a3 : A3} : xc3 (some (.inl (a1, a2, a3))) k = k a1 a2 a3 := rfl
theorem xc3_r {A1 A2 A3 B : Type} {k : A1 → A2 → A3 → Option (B ⊕ String)} {E : String} : xc3 (some (.inr E)) k = some (.inr E) := rfl
def xv4 {A1 A2 A3 A4 O : Type} (o : Option (A1 × A2 × A3 × A4)) (k : A1 → A2 → A3 → A4 → Option O) : Option O := match o with
  | none => none
  | some (a1, a2, a3, a4) => k a1 a2 a3 a4
theorem xv4_i {A1 A2 A3 A4 O : Type} {o : Option (A1 × A2 × A3 × A4)} {k : A1 → A2 → A3 → A4 → Option O} {z : O} (h : xv4 o k = some z) : ∃ a1 a2 a3 a4, o = some (a1, a2, a3, a4) ∧ k a1 a2 a3 a4 = some z := by
  match o, h with
  | some (a1, a2, a3, a4), h => exact ⟨a1, a2, a3, a4, rfl, h⟩
theorem xv4_s {A1 A2 A3 A4 O : Type} {k : A1 → A2 → A3 → A4 → Option O} {a1 : A1} {a2 : A2} {a3 : A3} {a4 : A4} : xv4 (some (a1, a2, a3, a4)) k = k a1 a2 a3 a4 := rfl
def xc4 {A1 A2 A3 A4 B : Type} (o : Option ((A1 × A2 × A3 × A4) ⊕ String)) (k : A1 → A2 → A3 → A4 → Option (B ⊕ String)) : Option (B ⊕ String) := match o with
  | none => none
  | some (.inl (a1, a2, a3, a4)) => k a1 a2 a3 a4
  | some (.inr E) => some (.inr E)
theorem xc4_i {A1 A2 A3 A4 B : Type} {o : Option ((A1 × A2 × A3 × A4) ⊕ String)} {k : A1 → A2 → A3 → A4 → Option (B ⊕ String)} {z : B ⊕ String} (h : xc4 o k = some z) : (∃ a1 a2 a3 a4, o = some (.inl (a1, a2, a3, a4)) ∧ k a1 a2 a3 a4 = some z) ∨ (∃ E, o = some (.inr E) ∧ z = .inr E) := by
  match o, h with
  | some (.inl (a1, a2, a3, a4)), h => exact Or.inl ⟨a1, a2, a3, a4, rfl, h⟩
  | some (.inr E), h => exact Or.inr ⟨E, rfl, (Option.some.inj h).symm⟩
theorem xc4_l {A1 A2 A3 A4 B : Type} {k : A1 → A2 → A3 → A4 → Option (B ⊕ String)} {a1 : A1} {a2 : A2} {a3 : A3} {a4 : A4} : xc4 (some (.inl (a1, a2, a3, a4))) k = k a1 a2 a3 a4 := rfl
theorem xc4_r {A1 A2 A3 A4 B : Type} {k : A1 → A2 → A3 → A4 → Option (B ⊕ String)} {E : String} : xc4 (some (.inr E)) k = some (.inr E) := rfl
def QI (below : List Frame) (D : va_G) (ty : List (ClassId × FieldType)) (A : Nat → Prop) (w1 : va_W) (r : Int32) (args : Array Value) (s : State) : State → Prop := MQ below (va_Qi (fun (r' : Int32) (_ : Unit) => r' = r) (fun _ t => cB D ty A w1 t) A) args s 0 0 A
def QV (below : List Frame) (D : va_G) (ty : List (ClassId × FieldType)) (A : Nat → Prop) (w1 : va_W) (args : Array Value) (s : State) : State → Prop := MQ below (va_Qv (fun (_ : Unit) => True) (fun _ t => cB D ty A w1 t) A) args s 0 0 A
def QT (below : List Frame) (D : va_G) (ty : List (ClassId × FieldType)) (w0 : va_W) (E : String) (args : Array Value) (s : State) : State → Prop := vx_MQ below (fun _ _ _ _ => False) (XE D ty w0 s.heap.size E) args s 1 6 (va_A w0 s.heap.size)
section STARTS
variable {p : Program} {l : Launch} {e : Env} {R : Room} {s : State} {m : MethodId} {args : Array Value} {below : List Frame} {meth : Method} {c : Code} {H : Heap} {locs : List Loc}
variable {own : String} {cc b : ByteArray} {nL n pc sz : Nat} {rt : Option FieldType} {rf : FieldType} {rm : Room} {D : va_G} {ty : List (ClassId × FieldType)} {A : Nat → Prop} {y : MethodName} {av : List Value} {ls : Array Slot} {ws w1 : va_W} {r : Int32} {E : String}
theorem mi_start (hy : plainName y.cls = true) (ho : y.cls = own) (hn : (lg_sl av).length ≤ n)
    (body : ∀ (p : Program) (e : Env) (s : State) (m : MethodId) (args : Array Value) (below : List Frame) (meth : Method) (c : Code) (A : Nat → Prop) (ls : Array Slot), CX p s m args c own b n D ty A → meth.sig.returnType = rt → meth.locks = false → va_P D vwCl ws s.heap → va_D A ws → va_S A s.heap s.heap [] → lv_has ls n (lv_args 0 av) → W p l e rm s m args below meth c s.heap [] 0 0 (QI below D ty A w1 r args s) (F0 m 0 ls [])) : MI l y b n rt rm D ty av ws sz r w1 := by
  refine Met.ofW (cc := b) (maxL := n) (ret := rt) hy rfl ?_
  intro p e s m args below meth c s₁ B hml hv
  obtain ⟨rfl, hsz, hP, hK, hD0, hE⟩ := hv
  have hts := atoms_spec (ws := Cond.code y b n rt :: WL) B.pre
  have hown : s.vm.findClass own = some m.cls := by rw [← ho]; exact findClass_of_methodNamed B.named
  subst hsz
  have hD := hD0.self (sz := s.heap.size)
  have hA : ∀ q : Nat, s.heap.size ≤ q → va_A ws s.heap.size q := fun q h => Or.inr h
  have hl := lv_entry av (n := n) hn
  rw [lg_entry_eq]
  exact body p e s m _ below meth c _ _ ⟨B.exec, B.bytes, hml, hown, fun w hw => hts w (List.mem_cons_of_mem _ hw), hK, hE, hA⟩ B.returns B.notSynchronized hP hD va_S.rf hl
theorem mif_start (hy : plainFor y = true) (ho : y.cls = own) (hn : (lg_sl av).length ≤ n)
    (body : ∀ (p : Program) (e : Env) (s : State) (m : MethodId) (args : Array Value) (below : List Frame) (meth : Method) (c : Code) (A : Nat → Prop) (ls : Array Slot), CX p s m args c own b n D ty A → meth.sig.returnType = rt → meth.locks = false → va_P D vwCl ws s.heap → va_D A ws → va_S A s.heap s.heap [] → lv_has ls n (lv_args 0 av) → W p l e rm s m args below meth c s.heap [] 0 0 (QI below D ty A w1 r args s) (F0 m 0 ls [])) : MI l y b n rt rm D ty av ws sz r w1 := by
  refine va_MetF (cc := b) (maxL := n) (ret := rt) hy rfl ?_
  intro p e s m args below meth c s₁ B hml hv
  obtain ⟨rfl, hsz, hP, hK, hD0, hE⟩ := hv
  have hts := atoms_spec (ws := Cond.code y b n rt :: WL) B.pre
  have hown : s.vm.findClass own = some m.cls := by rw [← ho]; exact findClass_of_methodNamed B.named
  subst hsz
  have hD := hD0.self (sz := s.heap.size)
  have hA : ∀ q : Nat, s.heap.size ≤ q → va_A ws s.heap.size q := fun q h => Or.inr h
  have hl := lv_entry av (n := n) hn
  rw [lg_entry_eq]
  exact body p e s m _ below meth c _ _ ⟨B.exec, B.bytes, hml, hown, fun w hw => hts w (List.mem_cons_of_mem _ hw), hK, hE, hA⟩ B.returns B.notSynchronized hP hD va_S.rf hl
theorem mv_start (hy : plainName y.cls = true) (ho : y.cls = own) (hn : (lg_sl av).length ≤ n)
    (body : ∀ (p : Program) (e : Env) (s : State) (m : MethodId) (args : Array Value) (below : List Frame) (meth : Method) (c : Code) (A : Nat → Prop) (ls : Array Slot), CX p s m args c own b n D ty A → meth.sig.returnType = rt → meth.locks = false → va_P D vwCl ws s.heap → va_D A ws → va_S A s.heap s.heap [] → lv_has ls n (lv_args 0 av) → W p l e rm s m args below meth c s.heap [] 0 0 (QV below D ty A w1 args s) (F0 m 0 ls [])) : MV l y b n rt rm D ty av ws sz w1 := by
  refine Met.ofW (cc := b) (maxL := n) (ret := rt) hy rfl ?_
  intro p e s m args below meth c s₁ B hml hv
  obtain ⟨rfl, hsz, hP, hK, hD0, hE⟩ := hv
  have hts := atoms_spec (ws := Cond.code y b n rt :: WL) B.pre
  have hown : s.vm.findClass own = some m.cls := by rw [← ho]; exact findClass_of_methodNamed B.named
  subst hsz
  have hD := hD0.self (sz := s.heap.size)
  have hA : ∀ q : Nat, s.heap.size ≤ q → va_A ws s.heap.size q := fun q h => Or.inr h
  have hl := lv_entry av (n := n) hn
  rw [lg_entry_eq]
  exact body p e s m _ below meth c _ _ ⟨B.exec, B.bytes, hml, hown, fun w hw => hts w (List.mem_cons_of_mem _ hw), hK, hE, hA⟩ B.returns B.notSynchronized hP hD va_S.rf hl
theorem mt_start (hy : plainName y.cls = true) (ho : y.cls = own) (hn : (lg_sl av).length ≤ n)
    (body : ∀ (p : Program) (e : Env) (s : State) (m : MethodId) (args : Array Value) (below : List Frame) (meth : Method) (c : Code) (A : Nat → Prop) (ls : Array Slot), CX p s m args c own b n D ty A → A = va_A ws s.heap.size → (∀ x ∈ c.exceptionTable.toList, False) → meth.locks = false → va_P D vwCl ws s.heap → va_D A ws → va_S A s.heap s.heap [] → lv_has ls n (lv_args 0 av) → W p l e rm s m args below meth c s.heap [] 0 0 (QT below D ty ws E args s) (F0 m 0 ls [])) : MT l y b n rt rm D ty av ws sz E := by
  refine vx_ofW (cc := b) (maxL := n) (ret := rt) hy rfl ?_
  intro p e s m args below meth c s₁ B hml hno hv
  obtain ⟨rfl, hsz, hP, hK, hD0, hE⟩ := hv
  have hts := atoms_spec (ws := Cond.code y b n rt :: WL) B.pre
  have hown : s.vm.findClass own = some m.cls := by rw [← ho]; exact findClass_of_methodNamed B.named
  subst hsz
  have hD := hD0.self (sz := s.heap.size)
  have hA : ∀ q : Nat, s.heap.size ≤ q → va_A ws s.heap.size q := fun q h => Or.inr h
  have hl := lv_entry av (n := n) hn
  rw [lg_entry_eq]
  exact body p e s m _ below meth c _ _ ⟨B.exec, B.bytes, hml, hown, fun w hw => hts w (List.mem_cons_of_mem _ hw), hK, hE, hA⟩ rfl hno B.notSynchronized hP hD va_S.rf hl
theorem mi_ret (C0 : CX p s m args c own cc nL D ty A) (hr : meth.sig.returnType = some rf) (hn : narrow rf (.int r) = .int r) (hlk : meth.locks = false) (hP : va_P D vwCl w1 H) (hD : va_D A w1) (hS : va_S A s.heap H locs) (hdg : decode cc pc = .ok (.ireturn, 1)) : W p l e R s m args below meth c H locs 0 0 (QI below D ty A w1 r args s) (F0 m pc ls [.int r]) :=
  W.zret C0.1 C0.2.1 hr hn (fun t ht hW => ⟨⟨r, (), rfl, rfl, by rw [ht]; exact hP, va_K.moved hW.alike C0.2.2.2.2.2.1, hD⟩, hS.F ht⟩) hS.2.2 hdg hlk
theorem mv_ret (C0 : CX p s m args c own cc nL D ty A) (hr : meth.sig.returnType = none) (hlk : meth.locks = false) (hP : va_P D vwCl w1 H) (hD : va_D A w1) (hS : va_S A s.heap H locs) (hdg : decode cc pc = .ok (.return_, 1)) : W p l e R s m args below meth c H locs 0 0 (QV below D ty A w1 args s) (F0 m pc ls []) :=
  W.vret C0.1 C0.2.1 hr (fun t ht hW => ⟨⟨(), rfl, trivial, by rw [ht]; exact hP, va_K.moved hW.alike C0.2.2.2.2.2.1, hD⟩, hS.F ht⟩) hS.2.2 hdg hlk
end STARTS
def wGo (x : Nat → Nat) (cI cZ : ClassId) (g : St) : va_W := [(x 0, .inr (2, [.ref (x 1), .ref (x 2), .ref (x 3), .ref (x 4), .ref (x 5), .int (g 0 5)])), (x 1, .inl (cI, 18, .inl (g 1))), (x 2, .inl (cI, 6, .inl (g 2))), (x 3, .inl (cI, 6, .inl (g 3))), (x 4, .inl (cI, 64, .inl (g 4))), (x 5, .inl (cI, 64, .inl (g 5)))]
def wFo (x : Nat → Nat) (cI cZ : ClassId) (g : St) : va_W := [(x 0, .inr (1, [.ref (x 1), .ref (x 2), .ref (x 3), .ref (x 4), .ref (x 5)])), (x 1, .inl (cI, 4, .inl (g 1))), (x 2, .inl (cI, 32, .inl (g 2))), (x 3, .inl (cI, 32, .inl (g 3))), (x 4, .inl (cI, 192, .inl (g 4))), (x 5, .inl (cI, 192, .inl (g 5)))]
def wPk (x : Nat → Nat) (cI cZ : ClassId) (g : St) (q : Int64) : va_W := [(x 0, .inr (4, [.ref (x 1), .ref (x 2), .ref (x 3), .ref (x 4), .int (g 0 4), .int (g 0 5), .int (g 0 6), .long q])), (x 1, .inl (cI, 3, .inl (g 1))), (x 2, .inl (cI, 6, .inl (g 2))), (x 3, .inl (cI, 6, .inl (g 3))), (x 4, .inl (cI, 6, .inl (g 4)))]
def wSk (x : Nat → Nat) (cI cZ : ClassId) (g : St) : va_W := [(x 0, .inr (6, [.ref (x 1), .ref (x 2), .ref (x 3), .ref (x 4), .int (g 0 4)])), (x 1, .inl (cI, 10, .inl (g 1))), (x 2, .inl (cI, 10, .inl (g 2))), (x 3, .inl (cI, 10, .inl (g 3))), (x 4, .inl (cZ, 10, .inl (g 4)))]
def wAi (x : Nat → Nat) (cI cZ : ClassId) (g : St) : va_W := [(x 0, .inr (0, [.ref (x 1), .int (g 0 1), .int (g 0 2)])), (x 1, .inl (cI, 200, .inl (g 1)))]
def wJo (x : Nat → Nat) (cI cZ : ClassId) (g : St) : va_W := [(x 0, .inr (3, [.ref (x 1), .int (g 0 1)])), (x 1, .inl (cI, 50, .inl (g 1)))]
def wSh (x : Nat → Nat) (cI cZ : ClassId) (g : St) : va_W := [(x 0, .inr (5, [.int (g 0 0), .int (g 0 1), .int (g 0 2), .int (g 0 3)]))]
def wMo (x : Nat → Nat) (cI cZ : ClassId) (g : St) : va_W := [(x 0, .inr (8, [.int (g 0 0), .int (g 0 1), .ref (x 1), .ref (x 2), .ref (x 3), .ref (x 4), .ref (x 5), .ref (x 6), .ref (x 7), .ref (x 8), .int (g 0 10), .ref (x 9), .ref (x 10), .int (g 0 13), .int (g 0 14), .int (g 0 15), .int (g 0 16), .ref (x 11), .int (g 0 18), .ref (x 12), .ref (x 13), .int (g 0 21), .ref (x 14), .int (g 0 23), .int (g 0 24), .int (g 0 25), .int (g 0 26), .int (g 0 27), .int (g 0 28), .int (g 0 29), .ref (x 15)])), (x 1, .inl (cI, 18, .inl (g 1))), (x 2, .inl (cI, 6, .inl (g 2))), (x 3, .inl (cZ, 36, .inl (g 3))), (x 4, .inl (cI, 4, .inl (g 4))), (x 5, .inl (cI, 32, .inl (g 5))), (x 6, .inl (cI, 32, .inl (g 6))), (x 7, .inl (cI, 192, .inl (g 7))), (x 8, .inl (cI, 192, .inl (g 8))), (x 9, .inl (cI, 6, .inl (g 9))), (x 10, .inl (cI, 6, .inl (g 10))), (x 11, .inl (cI, 64, .inl (g 11))), (x 12, .inl (cI, 30, .inl (g 12))), (x 13, .inl (cZ, 10, .inl (g 13))), (x 14, .inl (cI, 200, .inl (g 14))), (x 15, .inl (cI, 50, .inl (g 15)))]
set_option maxRecDepth 20000 in
theorem u_Go_1 {x : Nat → Nat} {cI cZ : ClassId} {g : St} {i : Nat} {v : Int32} : wGo x cI cZ (up2 g 1 i v) = (wGo x cI cZ g).set 1 (x 1, .inl (cI, 18, .inl (upd (g 1) i v))) := rfl
set_option maxRecDepth 20000 in
theorem u_Go_2 {x : Nat → Nat} {cI cZ : ClassId} {g : St} {i : Nat} {v : Int32} : wGo x cI cZ (up2 g 2 i v) = (wGo x cI cZ g).set 2 (x 2, .inl (cI, 6, .inl (upd (g 2) i v))) := rfl
set_option maxRecDepth 20000 in
theorem u_Go_3 {x : Nat → Nat} {cI cZ : ClassId} {g : St} {i : Nat} {v : Int32} : wGo x cI cZ (up2 g 3 i v) = (wGo x cI cZ g).set 3 (x 3, .inl (cI, 6, .inl (upd (g 3) i v))) := rfl
set_option maxRecDepth 20000 in
theorem u_Go_4 {x : Nat → Nat} {cI cZ : ClassId} {g : St} {i : Nat} {v : Int32} : wGo x cI cZ (up2 g 4 i v) = (wGo x cI cZ g).set 4 (x 4, .inl (cI, 64, .inl (upd (g 4) i v))) := rfl
set_option maxRecDepth 20000 in
theorem u_Go_5 {x : Nat → Nat} {cI cZ : ClassId} {g : St} {i : Nat} {v : Int32} : wGo x cI cZ (up2 g 5 i v) = (wGo x cI cZ g).set 5 (x 5, .inl (cI, 64, .inl (upd (g 5) i v))) := rfl
set_option maxRecDepth 20000 in
theorem u_Go_0_5 {x : Nat → Nat} {cI cZ : ClassId} {g : St} {v : Int32} : wGo x cI cZ (up2 g 0 5 v) = (wGo x cI cZ g).set 0 (x 0, .inr (2, List.set [.ref (x 1), .ref (x 2), .ref (x 3), .ref (x 4), .ref (x 5), .int (g 0 5)] 5 (.int v))) := rfl
set_option maxRecDepth 20000 in
theorem u_Fo_1 {x : Nat → Nat} {cI cZ : ClassId} {g : St} {i : Nat} {v : Int32} : wFo x cI cZ (up2 g 1 i v) = (wFo x cI cZ g).set 1 (x 1, .inl (cI, 4, .inl (upd (g 1) i v))) := rfl
set_option maxRecDepth 20000 in
theorem u_Fo_2 {x : Nat → Nat} {cI cZ : ClassId} {g : St} {i : Nat} {v : Int32} : wFo x cI cZ (up2 g 2 i v) = (wFo x cI cZ g).set 2 (x 2, .inl (cI, 32, .inl (upd (g 2) i v))) := rfl
set_option maxRecDepth 20000 in
theorem u_Fo_3 {x : Nat → Nat} {cI cZ : ClassId} {g : St} {i : Nat} {v : Int32} : wFo x cI cZ (up2 g 3 i v) = (wFo x cI cZ g).set 3 (x 3, .inl (cI, 32, .inl (upd (g 3) i v))) := rfl
set_option maxRecDepth 20000 in
theorem u_Fo_4 {x : Nat → Nat} {cI cZ : ClassId} {g : St} {i : Nat} {v : Int32} : wFo x cI cZ (up2 g 4 i v) = (wFo x cI cZ g).set 4 (x 4, .inl (cI, 192, .inl (upd (g 4) i v))) := rfl
set_option maxRecDepth 20000 in
theorem u_Fo_5 {x : Nat → Nat} {cI cZ : ClassId} {g : St} {i : Nat} {v : Int32} : wFo x cI cZ (up2 g 5 i v) = (wFo x cI cZ g).set 5 (x 5, .inl (cI, 192, .inl (upd (g 5) i v))) := rfl
set_option maxRecDepth 20000 in
theorem u_Pk_1 {x : Nat → Nat} {cI cZ : ClassId} {g : St} {q : Int64} {i : Nat} {v : Int32} : wPk x cI cZ (up2 g 1 i v) q = (wPk x cI cZ g q).set 1 (x 1, .inl (cI, 3, .inl (upd (g 1) i v))) := rfl
set_option maxRecDepth 20000 in
theorem u_Pk_2 {x : Nat → Nat} {cI cZ : ClassId} {g : St} {q : Int64} {i : Nat} {v : Int32} : wPk x cI cZ (up2 g 2 i v) q = (wPk x cI cZ g q).set 2 (x 2, .inl (cI, 6, .inl (upd (g 2) i v))) := rfl
set_option maxRecDepth 20000 in
theorem u_Pk_3 {x : Nat → Nat} {cI cZ : ClassId} {g : St} {q : Int64} {i : Nat} {v : Int32} : wPk x cI cZ (up2 g 3 i v) q = (wPk x cI cZ g q).set 3 (x 3, .inl (cI, 6, .inl (upd (g 3) i v))) := rfl
set_option maxRecDepth 20000 in
theorem u_Pk_4 {x : Nat → Nat} {cI cZ : ClassId} {g : St} {q : Int64} {i : Nat} {v : Int32} : wPk x cI cZ (up2 g 4 i v) q = (wPk x cI cZ g q).set 4 (x 4, .inl (cI, 6, .inl (upd (g 4) i v))) := rfl
set_option maxRecDepth 20000 in
theorem u_Pk_0_4 {x : Nat → Nat} {cI cZ : ClassId} {g : St} {q : Int64} {v : Int32} : wPk x cI cZ (up2 g 0 4 v) q = (wPk x cI cZ g q).set 0 (x 0, .inr (4, List.set [.ref (x 1), .ref (x 2), .ref (x 3), .ref (x 4), .int (g 0 4), .int (g 0 5), .int (g 0 6), .long q] 4 (.int v))) := rfl
set_option maxRecDepth 20000 in
theorem u_Pk_0_5 {x : Nat → Nat} {cI cZ : ClassId} {g : St} {q : Int64} {v : Int32} : wPk x cI cZ (up2 g 0 5 v) q = (wPk x cI cZ g q).set 0 (x 0, .inr (4, List.set [.ref (x 1), .ref (x 2), .ref (x 3), .ref (x 4), .int (g 0 4), .int (g 0 5), .int (g 0 6), .long q] 5 (.int v))) := rfl
set_option maxRecDepth 20000 in
theorem u_Pk_0_6 {x : Nat → Nat} {cI cZ : ClassId} {g : St} {q : Int64} {v : Int32} : wPk x cI cZ (up2 g 0 6 v) q = (wPk x cI cZ g q).set 0 (x 0, .inr (4, List.set [.ref (x 1), .ref (x 2), .ref (x 3), .ref (x 4), .int (g 0 4), .int (g 0 5), .int (g 0 6), .long q] 6 (.int v))) := rfl
set_option maxRecDepth 20000 in
theorem u_Pk_q {x : Nat → Nat} {cI cZ : ClassId} {g : St} {q q1 : Int64} : wPk x cI cZ g q1 = (wPk x cI cZ g q).set 0 (x 0, .inr (4, List.set [.ref (x 1), .ref (x 2), .ref (x 3), .ref (x 4), .int (g 0 4), .int (g 0 5), .int (g 0 6), .long q] 7 (.long q1))) := rfl
set_option maxRecDepth 20000 in
theorem u_Sk_1 {x : Nat → Nat} {cI cZ : ClassId} {g : St} {i : Nat} {v : Int32} : wSk x cI cZ (up2 g 1 i v) = (wSk x cI cZ g).set 1 (x 1, .inl (cI, 10, .inl (upd (g 1) i v))) := rfl
set_option maxRecDepth 20000 in
theorem u_Sk_2 {x : Nat → Nat} {cI cZ : ClassId} {g : St} {i : Nat} {v : Int32} : wSk x cI cZ (up2 g 2 i v) = (wSk x cI cZ g).set 2 (x 2, .inl (cI, 10, .inl (upd (g 2) i v))) := rfl
set_option maxRecDepth 20000 in
theorem u_Sk_3 {x : Nat → Nat} {cI cZ : ClassId} {g : St} {i : Nat} {v : Int32} : wSk x cI cZ (up2 g 3 i v) = (wSk x cI cZ g).set 3 (x 3, .inl (cI, 10, .inl (upd (g 3) i v))) := rfl
set_option maxRecDepth 20000 in
theorem u_Sk_4 {x : Nat → Nat} {cI cZ : ClassId} {g : St} {i : Nat} {v : Int32} : wSk x cI cZ (up2 g 4 i v) = (wSk x cI cZ g).set 4 (x 4, .inl (cZ, 10, .inl (upd (g 4) i v))) := rfl
set_option maxRecDepth 20000 in
theorem u_Sk_0_4 {x : Nat → Nat} {cI cZ : ClassId} {g : St} {v : Int32} : wSk x cI cZ (up2 g 0 4 v) = (wSk x cI cZ g).set 0 (x 0, .inr (6, List.set [.ref (x 1), .ref (x 2), .ref (x 3), .ref (x 4), .int (g 0 4)] 4 (.int v))) := rfl
set_option maxRecDepth 20000 in
theorem u_Ai_1 {x : Nat → Nat} {cI cZ : ClassId} {g : St} {i : Nat} {v : Int32} : wAi x cI cZ (up2 g 1 i v) = (wAi x cI cZ g).set 1 (x 1, .inl (cI, 200, .inl (upd (g 1) i v))) := rfl
set_option maxRecDepth 20000 in
theorem u_Ai_0_1 {x : Nat → Nat} {cI cZ : ClassId} {g : St} {v : Int32} : wAi x cI cZ (up2 g 0 1 v) = (wAi x cI cZ g).set 0 (x 0, .inr (0, List.set [.ref (x 1), .int (g 0 1), .int (g 0 2)] 1 (.int v))) := rfl
set_option maxRecDepth 20000 in
theorem u_Ai_0_2 {x : Nat → Nat} {cI cZ : ClassId} {g : St} {v : Int32} : wAi x cI cZ (up2 g 0 2 v) = (wAi x cI cZ g).set 0 (x 0, .inr (0, List.set [.ref (x 1), .int (g 0 1), .int (g 0 2)] 2 (.int v))) := rfl
set_option maxRecDepth 20000 in
theorem u_Jo_1 {x : Nat → Nat} {cI cZ : ClassId} {g : St} {i : Nat} {v : Int32} : wJo x cI cZ (up2 g 1 i v) = (wJo x cI cZ g).set 1 (x 1, .inl (cI, 50, .inl (upd (g 1) i v))) := rfl
set_option maxRecDepth 20000 in
theorem u_Jo_0_1 {x : Nat → Nat} {cI cZ : ClassId} {g : St} {v : Int32} : wJo x cI cZ (up2 g 0 1 v) = (wJo x cI cZ g).set 0 (x 0, .inr (3, List.set [.ref (x 1), .int (g 0 1)] 1 (.int v))) := rfl
set_option maxRecDepth 20000 in
theorem u_Sh_0_0 {x : Nat → Nat} {cI cZ : ClassId} {g : St} {v : Int32} : wSh x cI cZ (up2 g 0 0 v) = (wSh x cI cZ g).set 0 (x 0, .inr (5, List.set [.int (g 0 0), .int (g 0 1), .int (g 0 2), .int (g 0 3)] 0 (.int v))) := rfl
set_option maxRecDepth 20000 in
theorem u_Sh_0_1 {x : Nat → Nat} {cI cZ : ClassId} {g : St} {v : Int32} : wSh x cI cZ (up2 g 0 1 v) = (wSh x cI cZ g).set 0 (x 0, .inr (5, List.set [.int (g 0 0), .int (g 0 1), .int (g 0 2), .int (g 0 3)] 1 (.int v))) := rfl
set_option maxRecDepth 20000 in
theorem u_Sh_0_2 {x : Nat → Nat} {cI cZ : ClassId} {g : St} {v : Int32} : wSh x cI cZ (up2 g 0 2 v) = (wSh x cI cZ g).set 0 (x 0, .inr (5, List.set [.int (g 0 0), .int (g 0 1), .int (g 0 2), .int (g 0 3)] 2 (.int v))) := rfl
set_option maxRecDepth 20000 in
theorem u_Sh_0_3 {x : Nat → Nat} {cI cZ : ClassId} {g : St} {v : Int32} : wSh x cI cZ (up2 g 0 3 v) = (wSh x cI cZ g).set 0 (x 0, .inr (5, List.set [.int (g 0 0), .int (g 0 1), .int (g 0 2), .int (g 0 3)] 3 (.int v))) := rfl
set_option maxRecDepth 20000 in
theorem u_Mo_0_0 {x : Nat → Nat} {cI cZ : ClassId} {g : St} {v : Int32} : wMo x cI cZ (up2 g 0 0 v) = (wMo x cI cZ g).set 0 (x 0, .inr (8, List.set [.int (g 0 0), .int (g 0 1), .ref (x 1), .ref (x 2), .ref (x 3), .ref (x 4), .ref (x 5), .ref (x 6), .ref (x 7), .ref (x 8), .int (g 0 10), .ref (x 9), .ref (x 10), .int (g 0 13), .int (g 0 14), .int (g 0 15), .int (g 0 16), .ref (x 11), .int (g 0 18), .ref (x 12), .ref (x 13), .int (g 0 21), .ref (x 14), .int (g 0 23), .int (g 0 24), .int (g 0 25), .int (g 0 26), .int (g 0 27), .int (g 0 28), .int (g 0 29), .ref (x 15)] 0 (.int v))) := rfl
set_option maxRecDepth 20000 in
theorem u_Mo_0_1 {x : Nat → Nat} {cI cZ : ClassId} {g : St} {v : Int32} : wMo x cI cZ (up2 g 0 1 v) = (wMo x cI cZ g).set 0 (x 0, .inr (8, List.set [.int (g 0 0), .int (g 0 1), .ref (x 1), .ref (x 2), .ref (x 3), .ref (x 4), .ref (x 5), .ref (x 6), .ref (x 7), .ref (x 8), .int (g 0 10), .ref (x 9), .ref (x 10), .int (g 0 13), .int (g 0 14), .int (g 0 15), .int (g 0 16), .ref (x 11), .int (g 0 18), .ref (x 12), .ref (x 13), .int (g 0 21), .ref (x 14), .int (g 0 23), .int (g 0 24), .int (g 0 25), .int (g 0 26), .int (g 0 27), .int (g 0 28), .int (g 0 29), .ref (x 15)] 1 (.int v))) := rfl
set_option maxRecDepth 20000 in
theorem u_Mo_1 {x : Nat → Nat} {cI cZ : ClassId} {g : St} {i : Nat} {v : Int32} : wMo x cI cZ (up2 g 1 i v) = (wMo x cI cZ g).set 1 (x 1, .inl (cI, 18, .inl (upd (g 1) i v))) := rfl
set_option maxRecDepth 20000 in
theorem u_Mo_2 {x : Nat → Nat} {cI cZ : ClassId} {g : St} {i : Nat} {v : Int32} : wMo x cI cZ (up2 g 2 i v) = (wMo x cI cZ g).set 2 (x 2, .inl (cI, 6, .inl (upd (g 2) i v))) := rfl
set_option maxRecDepth 20000 in
theorem u_Mo_3 {x : Nat → Nat} {cI cZ : ClassId} {g : St} {i : Nat} {v : Int32} : wMo x cI cZ (up2 g 3 i v) = (wMo x cI cZ g).set 3 (x 3, .inl (cZ, 36, .inl (upd (g 3) i v))) := rfl
set_option maxRecDepth 20000 in
theorem u_Mo_4 {x : Nat → Nat} {cI cZ : ClassId} {g : St} {i : Nat} {v : Int32} : wMo x cI cZ (up2 g 4 i v) = (wMo x cI cZ g).set 4 (x 4, .inl (cI, 4, .inl (upd (g 4) i v))) := rfl
set_option maxRecDepth 20000 in
theorem u_Mo_5 {x : Nat → Nat} {cI cZ : ClassId} {g : St} {i : Nat} {v : Int32} : wMo x cI cZ (up2 g 5 i v) = (wMo x cI cZ g).set 5 (x 5, .inl (cI, 32, .inl (upd (g 5) i v))) := rfl
set_option maxRecDepth 20000 in
theorem u_Mo_6 {x : Nat → Nat} {cI cZ : ClassId} {g : St} {i : Nat} {v : Int32} : wMo x cI cZ (up2 g 6 i v) = (wMo x cI cZ g).set 6 (x 6, .inl (cI, 32, .inl (upd (g 6) i v))) := rfl
set_option maxRecDepth 20000 in
theorem u_Mo_7 {x : Nat → Nat} {cI cZ : ClassId} {g : St} {i : Nat} {v : Int32} : wMo x cI cZ (up2 g 7 i v) = (wMo x cI cZ g).set 7 (x 7, .inl (cI, 192, .inl (upd (g 7) i v))) := rfl
set_option maxRecDepth 20000 in
theorem u_Mo_8 {x : Nat → Nat} {cI cZ : ClassId} {g : St} {i : Nat} {v : Int32} : wMo x cI cZ (up2 g 8 i v) = (wMo x cI cZ g).set 8 (x 8, .inl (cI, 192, .inl (upd (g 8) i v))) := rfl
set_option maxRecDepth 20000 in
theorem u_Mo_0_10 {x : Nat → Nat} {cI cZ : ClassId} {g : St} {v : Int32} : wMo x cI cZ (up2 g 0 10 v) = (wMo x cI cZ g).set 0 (x 0, .inr (8, List.set [.int (g 0 0), .int (g 0 1), .ref (x 1), .ref (x 2), .ref (x 3), .ref (x 4), .ref (x 5), .ref (x 6), .ref (x 7), .ref (x 8), .int (g 0 10), .ref (x 9), .ref (x 10), .int (g 0 13), .int (g 0 14), .int (g 0 15), .int (g 0 16), .ref (x 11), .int (g 0 18), .ref (x 12), .ref (x 13), .int (g 0 21), .ref (x 14), .int (g 0 23), .int (g 0 24), .int (g 0 25), .int (g 0 26), .int (g 0 27), .int (g 0 28), .int (g 0 29), .ref (x 15)] 10 (.int v))) := rfl
set_option maxRecDepth 20000 in
theorem u_Mo_9 {x : Nat → Nat} {cI cZ : ClassId} {g : St} {i : Nat} {v : Int32} : wMo x cI cZ (up2 g 9 i v) = (wMo x cI cZ g).set 9 (x 9, .inl (cI, 6, .inl (upd (g 9) i v))) := rfl
set_option maxRecDepth 20000 in
theorem u_Mo_10 {x : Nat → Nat} {cI cZ : ClassId} {g : St} {i : Nat} {v : Int32} : wMo x cI cZ (up2 g 10 i v) = (wMo x cI cZ g).set 10 (x 10, .inl (cI, 6, .inl (upd (g 10) i v))) := rfl
set_option maxRecDepth 20000 in
theorem u_Mo_0_13 {x : Nat → Nat} {cI cZ : ClassId} {g : St} {v : Int32} : wMo x cI cZ (up2 g 0 13 v) = (wMo x cI cZ g).set 0 (x 0, .inr (8, List.set [.int (g 0 0), .int (g 0 1), .ref (x 1), .ref (x 2), .ref (x 3), .ref (x 4), .ref (x 5), .ref (x 6), .ref (x 7), .ref (x 8), .int (g 0 10), .ref (x 9), .ref (x 10), .int (g 0 13), .int (g 0 14), .int (g 0 15), .int (g 0 16), .ref (x 11), .int (g 0 18), .ref (x 12), .ref (x 13), .int (g 0 21), .ref (x 14), .int (g 0 23), .int (g 0 24), .int (g 0 25), .int (g 0 26), .int (g 0 27), .int (g 0 28), .int (g 0 29), .ref (x 15)] 13 (.int v))) := rfl
set_option maxRecDepth 20000 in
theorem u_Mo_0_14 {x : Nat → Nat} {cI cZ : ClassId} {g : St} {v : Int32} : wMo x cI cZ (up2 g 0 14 v) = (wMo x cI cZ g).set 0 (x 0, .inr (8, List.set [.int (g 0 0), .int (g 0 1), .ref (x 1), .ref (x 2), .ref (x 3), .ref (x 4), .ref (x 5), .ref (x 6), .ref (x 7), .ref (x 8), .int (g 0 10), .ref (x 9), .ref (x 10), .int (g 0 13), .int (g 0 14), .int (g 0 15), .int (g 0 16), .ref (x 11), .int (g 0 18), .ref (x 12), .ref (x 13), .int (g 0 21), .ref (x 14), .int (g 0 23), .int (g 0 24), .int (g 0 25), .int (g 0 26), .int (g 0 27), .int (g 0 28), .int (g 0 29), .ref (x 15)] 14 (.int v))) := rfl
set_option maxRecDepth 20000 in
theorem u_Mo_0_15 {x : Nat → Nat} {cI cZ : ClassId} {g : St} {v : Int32} : wMo x cI cZ (up2 g 0 15 v) = (wMo x cI cZ g).set 0 (x 0, .inr (8, List.set [.int (g 0 0), .int (g 0 1), .ref (x 1), .ref (x 2), .ref (x 3), .ref (x 4), .ref (x 5), .ref (x 6), .ref (x 7), .ref (x 8), .int (g 0 10), .ref (x 9), .ref (x 10), .int (g 0 13), .int (g 0 14), .int (g 0 15), .int (g 0 16), .ref (x 11), .int (g 0 18), .ref (x 12), .ref (x 13), .int (g 0 21), .ref (x 14), .int (g 0 23), .int (g 0 24), .int (g 0 25), .int (g 0 26), .int (g 0 27), .int (g 0 28), .int (g 0 29), .ref (x 15)] 15 (.int v))) := rfl
set_option maxRecDepth 20000 in
theorem u_Mo_0_16 {x : Nat → Nat} {cI cZ : ClassId} {g : St} {v : Int32} : wMo x cI cZ (up2 g 0 16 v) = (wMo x cI cZ g).set 0 (x 0, .inr (8, List.set [.int (g 0 0), .int (g 0 1), .ref (x 1), .ref (x 2), .ref (x 3), .ref (x 4), .ref (x 5), .ref (x 6), .ref (x 7), .ref (x 8), .int (g 0 10), .ref (x 9), .ref (x 10), .int (g 0 13), .int (g 0 14), .int (g 0 15), .int (g 0 16), .ref (x 11), .int (g 0 18), .ref (x 12), .ref (x 13), .int (g 0 21), .ref (x 14), .int (g 0 23), .int (g 0 24), .int (g 0 25), .int (g 0 26), .int (g 0 27), .int (g 0 28), .int (g 0 29), .ref (x 15)] 16 (.int v))) := rfl
set_option maxRecDepth 20000 in
theorem u_Mo_11 {x : Nat → Nat} {cI cZ : ClassId} {g : St} {i : Nat} {v : Int32} : wMo x cI cZ (up2 g 11 i v) = (wMo x cI cZ g).set 11 (x 11, .inl (cI, 64, .inl (upd (g 11) i v))) := rfl
set_option maxRecDepth 20000 in
theorem u_Mo_0_18 {x : Nat → Nat} {cI cZ : ClassId} {g : St} {v : Int32} : wMo x cI cZ (up2 g 0 18 v) = (wMo x cI cZ g).set 0 (x 0, .inr (8, List.set [.int (g 0 0), .int (g 0 1), .ref (x 1), .ref (x 2), .ref (x 3), .ref (x 4), .ref (x 5), .ref (x 6), .ref (x 7), .ref (x 8), .int (g 0 10), .ref (x 9), .ref (x 10), .int (g 0 13), .int (g 0 14), .int (g 0 15), .int (g 0 16), .ref (x 11), .int (g 0 18), .ref (x 12), .ref (x 13), .int (g 0 21), .ref (x 14), .int (g 0 23), .int (g 0 24), .int (g 0 25), .int (g 0 26), .int (g 0 27), .int (g 0 28), .int (g 0 29), .ref (x 15)] 18 (.int v))) := rfl
set_option maxRecDepth 20000 in
theorem u_Mo_12 {x : Nat → Nat} {cI cZ : ClassId} {g : St} {i : Nat} {v : Int32} : wMo x cI cZ (up2 g 12 i v) = (wMo x cI cZ g).set 12 (x 12, .inl (cI, 30, .inl (upd (g 12) i v))) := rfl
set_option maxRecDepth 20000 in
theorem u_Mo_13 {x : Nat → Nat} {cI cZ : ClassId} {g : St} {i : Nat} {v : Int32} : wMo x cI cZ (up2 g 13 i v) = (wMo x cI cZ g).set 13 (x 13, .inl (cZ, 10, .inl (upd (g 13) i v))) := rfl
set_option maxRecDepth 20000 in
theorem u_Mo_0_21 {x : Nat → Nat} {cI cZ : ClassId} {g : St} {v : Int32} : wMo x cI cZ (up2 g 0 21 v) = (wMo x cI cZ g).set 0 (x 0, .inr (8, List.set [.int (g 0 0), .int (g 0 1), .ref (x 1), .ref (x 2), .ref (x 3), .ref (x 4), .ref (x 5), .ref (x 6), .ref (x 7), .ref (x 8), .int (g 0 10), .ref (x 9), .ref (x 10), .int (g 0 13), .int (g 0 14), .int (g 0 15), .int (g 0 16), .ref (x 11), .int (g 0 18), .ref (x 12), .ref (x 13), .int (g 0 21), .ref (x 14), .int (g 0 23), .int (g 0 24), .int (g 0 25), .int (g 0 26), .int (g 0 27), .int (g 0 28), .int (g 0 29), .ref (x 15)] 21 (.int v))) := rfl
set_option maxRecDepth 20000 in
theorem u_Mo_14 {x : Nat → Nat} {cI cZ : ClassId} {g : St} {i : Nat} {v : Int32} : wMo x cI cZ (up2 g 14 i v) = (wMo x cI cZ g).set 14 (x 14, .inl (cI, 200, .inl (upd (g 14) i v))) := rfl
set_option maxRecDepth 20000 in
theorem u_Mo_0_23 {x : Nat → Nat} {cI cZ : ClassId} {g : St} {v : Int32} : wMo x cI cZ (up2 g 0 23 v) = (wMo x cI cZ g).set 0 (x 0, .inr (8, List.set [.int (g 0 0), .int (g 0 1), .ref (x 1), .ref (x 2), .ref (x 3), .ref (x 4), .ref (x 5), .ref (x 6), .ref (x 7), .ref (x 8), .int (g 0 10), .ref (x 9), .ref (x 10), .int (g 0 13), .int (g 0 14), .int (g 0 15), .int (g 0 16), .ref (x 11), .int (g 0 18), .ref (x 12), .ref (x 13), .int (g 0 21), .ref (x 14), .int (g 0 23), .int (g 0 24), .int (g 0 25), .int (g 0 26), .int (g 0 27), .int (g 0 28), .int (g 0 29), .ref (x 15)] 23 (.int v))) := rfl
set_option maxRecDepth 20000 in
theorem u_Mo_0_24 {x : Nat → Nat} {cI cZ : ClassId} {g : St} {v : Int32} : wMo x cI cZ (up2 g 0 24 v) = (wMo x cI cZ g).set 0 (x 0, .inr (8, List.set [.int (g 0 0), .int (g 0 1), .ref (x 1), .ref (x 2), .ref (x 3), .ref (x 4), .ref (x 5), .ref (x 6), .ref (x 7), .ref (x 8), .int (g 0 10), .ref (x 9), .ref (x 10), .int (g 0 13), .int (g 0 14), .int (g 0 15), .int (g 0 16), .ref (x 11), .int (g 0 18), .ref (x 12), .ref (x 13), .int (g 0 21), .ref (x 14), .int (g 0 23), .int (g 0 24), .int (g 0 25), .int (g 0 26), .int (g 0 27), .int (g 0 28), .int (g 0 29), .ref (x 15)] 24 (.int v))) := rfl
set_option maxRecDepth 20000 in
theorem u_Mo_0_25 {x : Nat → Nat} {cI cZ : ClassId} {g : St} {v : Int32} : wMo x cI cZ (up2 g 0 25 v) = (wMo x cI cZ g).set 0 (x 0, .inr (8, List.set [.int (g 0 0), .int (g 0 1), .ref (x 1), .ref (x 2), .ref (x 3), .ref (x 4), .ref (x 5), .ref (x 6), .ref (x 7), .ref (x 8), .int (g 0 10), .ref (x 9), .ref (x 10), .int (g 0 13), .int (g 0 14), .int (g 0 15), .int (g 0 16), .ref (x 11), .int (g 0 18), .ref (x 12), .ref (x 13), .int (g 0 21), .ref (x 14), .int (g 0 23), .int (g 0 24), .int (g 0 25), .int (g 0 26), .int (g 0 27), .int (g 0 28), .int (g 0 29), .ref (x 15)] 25 (.int v))) := rfl
set_option maxRecDepth 20000 in
theorem u_Mo_0_26 {x : Nat → Nat} {cI cZ : ClassId} {g : St} {v : Int32} : wMo x cI cZ (up2 g 0 26 v) = (wMo x cI cZ g).set 0 (x 0, .inr (8, List.set [.int (g 0 0), .int (g 0 1), .ref (x 1), .ref (x 2), .ref (x 3), .ref (x 4), .ref (x 5), .ref (x 6), .ref (x 7), .ref (x 8), .int (g 0 10), .ref (x 9), .ref (x 10), .int (g 0 13), .int (g 0 14), .int (g 0 15), .int (g 0 16), .ref (x 11), .int (g 0 18), .ref (x 12), .ref (x 13), .int (g 0 21), .ref (x 14), .int (g 0 23), .int (g 0 24), .int (g 0 25), .int (g 0 26), .int (g 0 27), .int (g 0 28), .int (g 0 29), .ref (x 15)] 26 (.int v))) := rfl
set_option maxRecDepth 20000 in
theorem u_Mo_0_27 {x : Nat → Nat} {cI cZ : ClassId} {g : St} {v : Int32} : wMo x cI cZ (up2 g 0 27 v) = (wMo x cI cZ g).set 0 (x 0, .inr (8, List.set [.int (g 0 0), .int (g 0 1), .ref (x 1), .ref (x 2), .ref (x 3), .ref (x 4), .ref (x 5), .ref (x 6), .ref (x 7), .ref (x 8), .int (g 0 10), .ref (x 9), .ref (x 10), .int (g 0 13), .int (g 0 14), .int (g 0 15), .int (g 0 16), .ref (x 11), .int (g 0 18), .ref (x 12), .ref (x 13), .int (g 0 21), .ref (x 14), .int (g 0 23), .int (g 0 24), .int (g 0 25), .int (g 0 26), .int (g 0 27), .int (g 0 28), .int (g 0 29), .ref (x 15)] 27 (.int v))) := rfl
set_option maxRecDepth 20000 in
theorem u_Mo_0_28 {x : Nat → Nat} {cI cZ : ClassId} {g : St} {v : Int32} : wMo x cI cZ (up2 g 0 28 v) = (wMo x cI cZ g).set 0 (x 0, .inr (8, List.set [.int (g 0 0), .int (g 0 1), .ref (x 1), .ref (x 2), .ref (x 3), .ref (x 4), .ref (x 5), .ref (x 6), .ref (x 7), .ref (x 8), .int (g 0 10), .ref (x 9), .ref (x 10), .int (g 0 13), .int (g 0 14), .int (g 0 15), .int (g 0 16), .ref (x 11), .int (g 0 18), .ref (x 12), .ref (x 13), .int (g 0 21), .ref (x 14), .int (g 0 23), .int (g 0 24), .int (g 0 25), .int (g 0 26), .int (g 0 27), .int (g 0 28), .int (g 0 29), .ref (x 15)] 28 (.int v))) := rfl
set_option maxRecDepth 20000 in
theorem u_Mo_0_29 {x : Nat → Nat} {cI cZ : ClassId} {g : St} {v : Int32} : wMo x cI cZ (up2 g 0 29 v) = (wMo x cI cZ g).set 0 (x 0, .inr (8, List.set [.int (g 0 0), .int (g 0 1), .ref (x 1), .ref (x 2), .ref (x 3), .ref (x 4), .ref (x 5), .ref (x 6), .ref (x 7), .ref (x 8), .int (g 0 10), .ref (x 9), .ref (x 10), .int (g 0 13), .int (g 0 14), .int (g 0 15), .int (g 0 16), .ref (x 11), .int (g 0 18), .ref (x 12), .ref (x 13), .int (g 0 21), .ref (x 14), .int (g 0 23), .int (g 0 24), .int (g 0 25), .int (g 0 26), .int (g 0 27), .int (g 0 28), .int (g 0 29), .ref (x 15)] 29 (.int v))) := rfl
set_option maxRecDepth 20000 in
theorem u_Mo_15 {x : Nat → Nat} {cI cZ : ClassId} {g : St} {i : Nat} {v : Int32} : wMo x cI cZ (up2 g 15 i v) = (wMo x cI cZ g).set 15 (x 15, .inl (cI, 50, .inl (upd (g 15) i v))) := rfl
theorem set_l {a b : va_W} {i : Nat} {q : Nat × va_E} (h : i < a.length) : a.set i q ++ b = (a ++ b).set i q := (List.set_append_left i q h).symm
