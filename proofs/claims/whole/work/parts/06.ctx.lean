-- ===== general words: results, guards, loops =====
/-- a value that gets a name -/
def letb {A O : Type} (e : A) (k : A → O) : O := k e
theorem letb_i {A O : Type} {e : A} {k : A → Option O} {o : O} (h : letb e k = some o) : ∃ x, x = e ∧ k x = some o := ⟨e, rfl, h⟩
/-- what must hold, else the road is stuck -/
def gd {O : Type} (c : Prop) [Decidable c] (x : Option O) : Option O := if c then x else none
theorem gd_i {O : Type} {c : Prop} [Decidable c] {x : Option O} {o : O} (h : gd c x = some o) : c ∧ x = some o := by
  unfold gd at h
  split at h
  · exact ⟨by assumption, h⟩
  · cases h
theorem gd_t {O : Type} {c : Prop} [Decidable c] (h : c) {x : Option O} : gd c x = x := if_pos h
/-- a call: its value, or what it threw -/
def xc {A O : Type} (o : Option (A ⊕ String)) (kt : String → Option O) (k : A → Option O) : Option O := match o with
  | none => none
  | some (.inl a) => k a
  | some (.inr x) => kt x
theorem xc_i {A O : Type} {o : Option (A ⊕ String)} {kt : String → Option O} {k : A → Option O} {b : O} (h : xc o kt k = some b) : (∃ a, o = some (.inl a) ∧ k a = some b) ∨ (∃ E, o = some (.inr E) ∧ kt E = some b) := by
  match o, h with
  | some (.inl a), h => exact Or.inl ⟨a, rfl, h⟩
  | some (.inr x), h => exact Or.inr ⟨x, rfl, h⟩
theorem xc_l {A O : Type} {kt : String → Option O} {k : A → Option O} (a : A) : xc (some (.inl a)) kt k = k a := rfl
theorem xc_r {A O : Type} {kt : String → Option O} {k : A → Option O} (x : String) : xc (A := A) (some (.inr x)) kt k = kt x := rfl
/-- a call that never throws -/
def xv {A O : Type} (o : Option A) (k : A → Option O) : Option O := match o with
  | none => none
  | some a => k a
theorem xv_i {A O : Type} {o : Option A} {k : A → Option O} {b : O} (h : xv o k = some b) : ∃ a, o = some a ∧ k a = some b := by
  match o, h with
  | some a, h => exact ⟨a, rfl, h⟩
theorem xv_s {A O : Type} {k : A → Option O} (a : A) : xv (some a) k = k a := rfl
def it1 {O A1 : Type} (f : (A1 → Option O) → A1 → Option O) : Nat → A1 → Option O
  | 0, _ => none
  | n + 1, a1 => f (it1 f n) a1
theorem it1_s {O A1 : Type} {f : (A1 → Option O) → A1 → Option O} {n : Nat} {a1 : A1} : it1 f (n + 1) a1 = f (it1 f n) a1 := rfl
theorem it1_0 {O A1 : Type} {f : (A1 → Option O) → A1 → Option O} {a1 : A1} {o : O} (h : it1 f 0 a1 = some o) : False := by cases h
def it2 {O A1 A2 : Type} (f : (A1 → A2 → Option O) → A1 → A2 → Option O) : Nat → A1 → A2 → Option O
  | 0, _, _ => none
  | n + 1, a1, a2 => f (it2 f n) a1 a2
theorem it2_s {O A1 A2 : Type} {f : (A1 → A2 → Option O) → A1 → A2 → Option O} {n : Nat} {a1 : A1} {a2 : A2} : it2 f (n + 1) a1 a2 = f (it2 f n) a1 a2 := rfl
theorem it2_0 {O A1 A2 : Type} {f : (A1 → A2 → Option O) → A1 → A2 → Option O} {a1 : A1} {a2 : A2} {o : O} (h : it2 f 0 a1 a2 = some o) : False := by cases h
def it3 {O A1 A2 A3 : Type} (f : (A1 → A2 → A3 → Option O) → A1 → A2 → A3 → Option O) : Nat → A1 → A2 → A3 → Option O
  | 0, _, _, _ => none
  | n + 1, a1, a2, a3 => f (it3 f n) a1 a2 a3
theorem it3_s {O A1 A2 A3 : Type} {f : (A1 → A2 → A3 → Option O) → A1 → A2 → A3 → Option O} {n : Nat} {a1 : A1} {a2 : A2} {a3 : A3} : it3 f (n + 1) a1 a2 a3 = f (it3 f n) a1 a2 a3 := rfl
theorem it3_0 {O A1 A2 A3 : Type} {f : (A1 → A2 → A3 → Option O) → A1 → A2 → A3 → Option O} {a1 : A1} {a2 : A2} {a3 : A3} {o : O} (h : it3 f 0 a1 a2 a3 = some o) : False := by cases h
def it4 {O A1 A2 A3 A4 : Type} (f : (A1 → A2 → A3 → A4 → Option O) → A1 → A2 → A3 → A4 → Option O) : Nat → A1 → A2 → A3 → A4 → Option O
  | 0, _, _, _, _ => none
  | n + 1, a1, a2, a3, a4 => f (it4 f n) a1 a2 a3 a4
theorem it4_s {O A1 A2 A3 A4 : Type} {f : (A1 → A2 → A3 → A4 → Option O) → A1 → A2 → A3 → A4 → Option O} {n : Nat} {a1 : A1} {a2 : A2} {a3 : A3} {a4 : A4} : it4 f (n + 1) a1 a2 a3 a4 = f (it4 f n) a1 a2 a3 a4 := rfl
theorem it4_0 {O A1 A2 A3 A4 : Type} {f : (A1 → A2 → A3 → A4 → Option O) → A1 → A2 → A3 → A4 → Option O} {a1 : A1} {a2 : A2} {a3 : A3} {a4 : A4} {o : O} (h : it4 f 0 a1 a2 a3 a4 = some o) : False := by cases h
def it5 {O A1 A2 A3 A4 A5 : Type} (f : (A1 → A2 → A3 → A4 → A5 → Option O) → A1 → A2 → A3 → A4 → A5 → Option O) : Nat → A1 → A2 → A3 → A4 → A5 → Option O
  | 0, _, _, _, _, _ => none
  | n + 1, a1, a2, a3, a4, a5 => f (it5 f n) a1 a2 a3 a4 a5
theorem it5_s {O A1 A2 A3 A4 A5 : Type} {f : (A1 → A2 → A3 → A4 → A5 → Option O) → A1 → A2 → A3 → A4 → A5 → Option O} {n : Nat} {a1 : A1} {a2 : A2} {a3 : A3} {a4 : A4} {a5 : A5} : it5 f (n + 1) a1 a2 a3 a4 a5 = f (it5 f n) a1 a2 a3 a4 a5 := rfl
theorem it5_0 {O A1 A2 A3 A4 A5 : Type} {f : (A1 → A2 → A3 → A4 → A5 → Option O) → A1 → A2 → A3 → A4 → A5 → Option O} {a1 : A1} {a2 : A2} {a3 : A3} {a4 : A4} {a5 : A5} {o : O} (h : it5 f 0 a1 a2 a3 a4 a5 = some o) : False := by cases h
def it6 {O A1 A2 A3 A4 A5 A6 : Type} (f : (A1 → A2 → A3 → A4 → A5 → A6 → Option O) → A1 → A2 → A3 → A4 → A5 → A6 → Option O) : Nat → A1 → A2 → A3 → A4 → A5 → A6 → Option O
  | 0, _, _, _, _, _, _ => none
  | n + 1, a1, a2, a3, a4, a5, a6 => f (it6 f n) a1 a2 a3 a4 a5 a6
theorem it6_s {O A1 A2 A3 A4 A5 A6 : Type} {f : (A1 → A2 → A3 → A4 → A5 → A6 → Option O) → A1 → A2 → A3 → A4 → A5 → A6 → Option O} {n : Nat} {a1 : A1} {a2 : A2} {a3 : A3} {a4 : A4} {a5 : A5} {a6 : A6} : it6 f (n + 1) a1 a2 a3 a4 a5 a6 = f (it6 f n) a1 a2 a3 a4 a5 a6 := rfl
theorem it6_0 {O A1 A2 A3 A4 A5 A6 : Type} {f : (A1 → A2 → A3 → A4 → A5 → A6 → Option O) → A1 → A2 → A3 → A4 → A5 → A6 → Option O} {a1 : A1} {a2 : A2} {a3 : A3} {a4 : A4} {a5 : A5} {a6 : A6} {o : O} (h : it6 f 0 a1 a2 a3 a4 a5 a6 = some o) : False := by cases h
def it7 {O A1 A2 A3 A4 A5 A6 A7 : Type} (f : (A1 → A2 → A3 → A4 → A5 → A6 → A7 → Option O) → A1 → A2 → A3 → A4 → A5 → A6 → A7 → Option O) : Nat → A1 → A2 → A3 → A4 → A5 → A6 → A7 → Option O
  | 0, _, _, _, _, _, _, _ => none
  | n + 1, a1, a2, a3, a4, a5, a6, a7 => f (it7 f n) a1 a2 a3 a4 a5 a6 a7
theorem it7_s {O A1 A2 A3 A4 A5 A6 A7 : Type} {f : (A1 → A2 → A3 → A4 → A5 → A6 → A7 → Option O) → A1 → A2 → A3 → A4 → A5 → A6 → A7 → Option O} {n : Nat} {a1 : A1} {a2 : A2} {a3 : A3} {a4 : A4} {a5 : A5} {a6 : A6} {a7 : A7} : it7 f (n + 1) a1 a2 a3 a4 a5 a6 a7 = f (it7 f n) a1 a2 a3 a4 a5 a6 a7 := rfl
theorem it7_0 {O A1 A2 A3 A4 A5 A6 A7 : Type} {f : (A1 → A2 → A3 → A4 → A5 → A6 → A7 → Option O) → A1 → A2 → A3 → A4 → A5 → A6 → A7 → Option O} {a1 : A1} {a2 : A2} {a3 : A3} {a4 : A4} {a5 : A5} {a6 : A6} {a7 : A7} {o : O} (h : it7 f 0 a1 a2 a3 a4 a5 a6 a7 = some o) : False := by cases h
def it8 {O A1 A2 A3 A4 A5 A6 A7 A8 : Type} (f : (A1 → A2 → A3 → A4 → A5 → A6 → A7 → A8 → Option O) → A1 → A2 → A3 → A4 → A5 → A6 → A7 → A8 → Option O) : Nat → A1 → A2 → A3 → A4 → A5 → A6 → A7 → A8 → Option O
  | 0, _, _, _, _, _, _, _, _ => none
  | n + 1, a1, a2, a3, a4, a5, a6, a7, a8 => f (it8 f n) a1 a2 a3 a4 a5 a6 a7 a8
theorem it8_s {O A1 A2 A3 A4 A5 A6 A7 A8 : Type} {f : (A1 → A2 → A3 → A4 → A5 → A6 → A7 → A8 → Option O) → A1 → A2 → A3 → A4 → A5 → A6 → A7 → A8 → Option O} {n : Nat} {a1 : A1} {a2 : A2} {a3 : A3} {a4 : A4} {a5 : A5} {a6 : A6} {a7 : A7} {a8 : A8} : it8 f (n + 1) a1 a2 a3 a4 a5 a6 a7 a8 = f (it8 f n) a1 a2 a3 a4 a5 a6 a7 a8 := rfl
theorem it8_0 {O A1 A2 A3 A4 A5 A6 A7 A8 : Type} {f : (A1 → A2 → A3 → A4 → A5 → A6 → A7 → A8 → Option O) → A1 → A2 → A3 → A4 → A5 → A6 → A7 → A8 → Option O} {a1 : A1} {a2 : A2} {a3 : A3} {a4 : A4} {a5 : A5} {a6 : A6} {a7 : A7} {a8 : A8} {o : O} (h : it8 f 0 a1 a2 a3 a4 a5 a6 a7 a8 = some o) : False := by cases h
def it9 {O A1 A2 A3 A4 A5 A6 A7 A8 A9 : Type} (f : (A1 → A2 → A3 → A4 → A5 → A6 → A7 → A8 → A9 → Option O) → A1 → A2 → A3 → A4 → A5 → A6 → A7 → A8 → A9 → Option O) : Nat → A1 → A2 → A3 → A4 → A5 → A6 → A7 → A8 → A9 → Option O
  | 0, _, _, _, _, _, _, _, _, _ => none
  | n + 1, a1, a2, a3, a4, a5, a6, a7, a8, a9 => f (it9 f n) a1 a2 a3 a4 a5 a6 a7 a8 a9
theorem it9_s {O A1 A2 A3 A4 A5 A6 A7 A8 A9 : Type} {f : (A1 → A2 → A3 → A4 → A5 → A6 → A7 → A8 → A9 → Option O) → A1 → A2 → A3 → A4 → A5 → A6 → A7 → A8 → A9 → Option O} {n : Nat} {a1 : A1} {a2 : A2} {a3 : A3} {a4 : A4} {a5 : A5} {a6 : A6} {a7 : A7} {a8 : A8} {a9 : A9} : it9 f (n + 1) a1 a2 a3 a4 a5 a6 a7 a8 a9 = f (it9 f n) a1 a2 a3 a4 a5 a6 a7 a8 a9 := rfl
theorem it9_0 {O A1 A2 A3 A4 A5 A6 A7 A8 A9 : Type} {f : (A1 → A2 → A3 → A4 → A5 → A6 → A7 → A8 → A9 → Option O) → A1 → A2 → A3 → A4 → A5 → A6 → A7 → A8 → A9 → Option O} {a1 : A1} {a2 : A2} {a3 : A3} {a4 : A4} {a5 : A5} {a6 : A6} {a7 : A7} {a8 : A8} {a9 : A9} {o : O} (h : it9 f 0 a1 a2 a3 a4 a5 a6 a7 a8 a9 = some o) : False := by cases h
/-- the turns that a loop may take; far above what any needs -/
def FU : Nat := 100000
/-- a store: cell k, place i -/
abbrev St : Type := Nat → Nat → Int32
def up2 (g : St) (k i : Nat) (v : Int32) : St := fun k' => if k' = k then upd (g k) i v else g k'
theorem up2_at {g : St} {k i k' j : Nat} {v : Int32} : up2 g k i v k' j = if k' = k ∧ j = i then v else g k' j := by
  unfold up2 upd
  by_cases h : k' = k
  · subst h
    by_cases h2 : j = i <;> simp [h2]
  · simp [h]
theorem up2_n {g : St} {k i k' : Nat} {v : Int32} (h : k' ≠ k) : up2 g k i v k' = g k' := if_neg h
/-- a place within -/
def inb (i : Int32) (n : Nat) : Bool := decide (0 ≤ i.toInt ∧ i.toInt < n)
theorem inb_in {i : Int32} {n : Nat} (h : inb i n = true) : vp_in i n := vp_in_iff.mpr (of_decide_eq_true h)
theorem inb_of {n k : Nat} (h : n < k) (hk : k < 2 ^ 31) : inb (nI n) k = true := by
  unfold inb
  rw [nI_toInt (by omega)]
  exact decide_eq_true ⟨by omega, by omega⟩
/-- a guard by a Bool -/
def gb {O : Type} (c : Bool) (x : Option O) : Option O := match c with
  | true => x
  | false => none
theorem gb_i {O : Type} {c : Bool} {x : Option O} {o : O} (h : gb c x = some o) : c = true ∧ x = some o := by
  cases c
  · cases h
  · exact ⟨rfl, h⟩
theorem gb_t {O : Type} {c : Bool} (h : c = true) {x : Option O} : gb c x = x := by rw [h]; rfl
def nz (y : Int32) : Bool := decide (¬ y = 0)
theorem nz_i {y : Int32} (h : nz y = true) : ¬ y = 0 := of_decide_eq_true h
abbrev TYS (cI cZ cJ : ClassId) : List (ClassId × FieldType) := [(cI, .int), (cZ, .boolean), (cJ, .long)]
def NF : List (String × Nat × String × String × String × String) := [(R_Pk, 99, R_Go, "sizes", "[I", R_Cc), (R_Pk, 28, R_Go, "count", "I", R_Cc), (R_Cc, 88, R_Go, "count", "I", R_Cc), (R_Cc, 135, R_Sk, "count", "I", R_Cc), (R_Cc, 140, R_Ai, "hours", "I", R_Cc), (R_Cc, 143, R_Sh, "count", "I", R_Cc), (R_Cc, 144, R_Sh, "toldCount", "I", R_Cc), (R_Go, 43, R_Cc, "SIZE_OF_WAY", "[I", R_Cc)]
def NM : List (String × Nat × MethodName × String) := [(R_Go, 31, y_Cc_requireRoom, R_Cc), (R_Go, 35, y_Cc_requireRange, R_Cc), (R_Go, 40, y_Cc_requireIndex, R_Cc), (R_Fo, 27, y_Cc_requireIndex, R_Cc), (R_Fo, 31, y_Cc_requireRoom, R_Cc), (R_Fo, 34, y_Cc_requireRange, R_Cc), (R_Pk, 46, y_Cc_requireRange, R_Cc), (R_Pk, 77, y_Cc_requireIndex, R_Cc), (R_Sk, 29, y_Cc_requireRoom, R_Cc), (R_Sk, 33, y_Cc_requireRange, R_Cc), (R_Sk, 45, y_Cc_requireIndex, R_Cc), (R_Ai, 22, y_Cc_requireRange, R_Cc), (R_Ai, 26, y_Cc_requireRoom, R_Cc), (R_Ai, 39, y_Cc_requireIndex, R_Cc), (R_Sh, 24, y_Cc_requireRange, R_Cc), (R_Jo, 20, y_Cc_requireRange, R_Cc), (R_Jo, 25, y_Cc_requireIndex, R_Cc)]
def NCa : List String := ["java/lang/IllegalStateException", "java/lang/IllegalArgumentException", "java/lang/IndexOutOfBoundsException"]
def NDe : List MethodName := [⟨"java/lang/RuntimeException", "<init>", "(Ljava/lang/String;)V"⟩, ⟨"java/lang/Exception", "<init>", "(Ljava/lang/String;)V"⟩, ⟨"java/lang/Throwable", "<init>", "(Ljava/lang/String;)V"⟩]
def NNc : List (String × String) := [("java/lang/IllegalStateException", "java/lang/IllegalArgumentException"), ("java/lang/IllegalStateException", "java/lang/IndexOutOfBoundsException"), ("java/lang/IllegalArgumentException", "java/lang/IllegalStateException"), ("java/lang/IllegalArgumentException", "java/lang/IndexOutOfBoundsException"), ("java/lang/IndexOutOfBoundsException", "java/lang/IllegalStateException"), ("java/lang/IndexOutOfBoundsException", "java/lang/IllegalArgumentException")]
def SW : List (String × Nat × String) := [(R_Cc, 163, "no room for more"), (R_Cc, 158, "out of range"), (R_Cc, 154, "no such number"), (R_Pk, 36, "no such object"), (R_Pk, 43, "empty set"), (R_Pk, 88, "nothing was packed"), (R_Pk, 84, "no such place"), (R_Go, 56, "grams below 1"), (R_Ai, 44, "low above high"), (R_Cc, 149, "no such count")]
/-- SIZE_OF_WAY -/
def wayT : Nat → Int32 := fun j => ([0, 1, 2, 1, 0, 2, 0, 2, 1, 2, 0, 1, 1, 2, 0, 2, 1, 0] : List Int32).getD j 0
/-- what is there from the start and stays: words of nests, texts, statics -/
def EV (A : Nat → Prop) (U : State) (H : Heap) : Prop :=
  (∀ q ∈ NF, va_Nw (.fieldLinkNest q.1 q.2.1 q.2.2.1 q.2.2.2.1 q.2.2.2.2.1 q.2.2.2.2.2) U) ∧ (∀ q ∈ NM, va_Nw (.methodLinkNest q.1 q.2.1 q.2.2.1 q.2.2.2) U) ∧ (∀ q ∈ NCa, va_Nw (.castable q q) U) ∧ (∀ q ∈ NDe, va_Nw (.declares q) U) ∧ (∀ q ∈ NNc, va_Nc q.1 q.2 U) ∧
  (∀ q ∈ SW, ∃ a, vk_R q.1 q.2.1 q.2.2 a U) ∧ vx_Zq Bundle.tN "UNASSIGNED_STACK" Bundle.steD A U H ∧ vx_Zq Bundle.tN "SUPPRESSED_SENTINEL" Bundle.listD A U H ∧ ∃ t, va_Z R_Cc "SIZE_OF_WAY" "[I" (.ref t) A U H ∧ va_T .int t 18 (fun j => .int (wayT j)) A U H
theorem EV.kept {A : Nat → Prop} {U : State} {H H1 : Heap} (h : EV A U H) (hq : ∀ a : Nat, a < H.size → ¬ A a → H1[a]? = H[a]?) : EV A U H1 := by
  obtain ⟨h1, h2, h3, h4, h5, h6, h7, h8, t, h9, h10⟩ := h
  exact ⟨h1, h2, h3, h4, h5, h6, h7.kept hq, h8.kept hq, t, h9.kept hq, h10.kept hq⟩
theorem EV.narrow {A B : Nat → Prop} {U : State} {H : Heap} (h : EV A U H) (hq : ∀ q, B q → A q) : EV B U H := by
  obtain ⟨h1, h2, h3, h4, h5, h6, h7, h8, t, h9, h10⟩ := h
  exact ⟨h1, h2, h3, h4, h5, h6, h7.narrow hq, h8.narrow hq, t, h9.narrow hq, h10.narrow hq⟩
theorem EV.warm {A : Nat → Prop} {s U : State} {H : Heap} (hW : s.WarmedH U.vm) (h : EV A s H) : EV A U H := by
  obtain ⟨h1, h2, h3, h4, h5, h6, h7, h8, t, h9, h10⟩ := h
  exact ⟨fun q hq => va_Nw.warmF hW (h1 q hq), fun q hq => va_Nw.warmM hW (h2 q hq), fun q hq => va_Nw.warmC hW (h3 q hq), fun q hq => va_Nw.warmD hW (h4 q hq), fun q hq => va_Nc.moved hW.alike (h5 q hq), fun q hq => by obtain ⟨a, ha⟩ := h6 q hq; exact ⟨a, vk_R.warm hW ha⟩, vx_Zq.moved hW.alike h7, vx_Zq.moved hW.alike h8, t, va_Z.moved hW.alike h9, va_T.moved hW.alike h10⟩
theorem EV.same {A : Nat → Prop} {u U : State} {H : Heap} (hv : u.vm = U.vm) (h : EV A u H) : EV A U H := by
  obtain ⟨h1, h2, h3, h4, h5, h6, h7, h8, t, h9, h10⟩ := h
  have ha : u.vm.Alike U.vm := by rw [hv]; exact Vm.Alike.refl U.vm
  exact ⟨fun q hq => va_Nw.same rfl hv (h1 q hq), fun q hq => va_Nw.same rfl hv (h2 q hq), fun q hq => va_Nw.same rfl hv (h3 q hq), fun q hq => va_Nw.same rfl hv (h4 q hq), fun q hq => va_Nc.moved ha (h5 q hq), fun q hq => by obtain ⟨a, ha⟩ := h6 q hq; exact ⟨a, vk_R.same hv.symm ha⟩, vx_Zq.moved ha h7, vx_Zq.moved ha h8, t, va_Z.moved ha h9, va_T.moved ha h10⟩
theorem WL_good {w : Cond} (h : w ∈ WL) : GoodIn WL (w :: WL) := fun w' h' => by
  have h2 : w' ∈ WL := (List.mem_cons.mp h').elim (fun e => by rw [e]; exact h) id
  exact ⟨h2, good_of_word (List.mem_filter.mp h2).2⟩
/-- a method's start -/
def cPc (D : va_G) (ty : List (ClassId × FieldType)) (av : List Value) (ws : va_W) (sz : Nat) : Array Value → State → Prop := va_Pc av (fun U => U.heap.size = sz ∧ va_P D vwCl ws U.heap ∧ va_K D vwCl ty U ∧ va_D (fun _ => True) ws ∧ EV (va_A ws sz) U U.heap)
theorem cPc_blind {D : va_G} {ty : List (ClassId × FieldType)} {av : List Value} {ws : va_W} {sz : Nat} : FrameBlind (cPc D ty av ws sz) := fun a U g mk q => by
  obtain ⟨q0, q1, qP, qK, qD, qE⟩ := q
  exact ⟨q0, q1, qP, va_K.moved (u := U) (U := U.calling g mk a) (Vm.Alike.refl U.vm) qK, qD, EV.same (u := U) (U := U.calling g mk a) rfl qE⟩
/-- the world at a method's end -/
def cB (D : va_G) (ty : List (ClassId × FieldType)) (A : Nat → Prop) (ws : va_W) (t : State) : Prop := va_P D vwCl ws t.heap ∧ va_K D vwCl ty t ∧ va_D A ws
/-- it returns the int r, the world is then w1 -/
def MI (l : Launch) (y : MethodName) (b : ByteArray) (n : Nat) (rt : Option FieldType) (rm : Room) (D : va_G) (ty : List (ClassId × FieldType)) (av : List Value) (ws : va_W) (sz : Nat) (r : Int32) (w1 : va_W) : Prop :=
  Met l y (.code y b n rt :: WL) rm (cPc D ty av ws sz) (va_Qi (fun (r' : Int32) (_ : Unit) => r' = r) (fun _ t => cB D ty (va_A ws sz) w1 t) (va_A ws sz)) 0 0 (va_A ws sz)
def MV (l : Launch) (y : MethodName) (b : ByteArray) (n : Nat) (rt : Option FieldType) (rm : Room) (D : va_G) (ty : List (ClassId × FieldType)) (av : List Value) (ws : va_W) (sz : Nat) (w1 : va_W) : Prop :=
  Met l y (.code y b n rt :: WL) rm (cPc D ty av ws sz) (va_Qv (fun (_ : Unit) => True) (fun _ t => cB D ty (va_A ws sz) w1 t) (va_A ws sz)) 0 0 (va_A ws sz)
/-- it throws E, the world stays -/
def XE (D : va_G) (ty : List (ClassId × FieldType)) (ws : va_W) (sz : Nat) (E : String) : String → State → State → Prop := vx_X (fun (_ : Unit) => True) (fun E' _ t => E' = E ∧ cB D ty (va_A ws sz) ws t) (va_A ws sz)
def MT (l : Launch) (y : MethodName) (b : ByteArray) (n : Nat) (rt : Option FieldType) (rm : Room) (D : va_G) (ty : List (ClassId × FieldType)) (av : List Value) (ws : va_W) (sz : Nat) (E : String) : Prop :=
  vx_Met l y (.code y b n rt :: WL) rm (cPc D ty av ws sz) (fun _ _ _ _ => False) (XE D ty ws sz E) 1 6 (va_A ws sz)
/-- what a walk knows of its method -/
def CX (p : Program) (s : State) (m : MethodId) (args : Array Value) (c : Code) (own : String) (cc : ByteArray) (nL : Nat) (D : va_G) (ty : List (ClassId × FieldType)) (A : Nat → Prop) : Prop :=
  p.tables.exec = Jvm.exec ∧ c.code = cc ∧ c.maxLocals = nL ∧ s.vm.findClass own = some m.cls ∧ (∀ w ∈ WL, w.before args s = true) ∧ va_K D vwCl ty s ∧ EV A s s.heap ∧ (∀ q, s.heap.size ≤ q → A q)
/-- what is known of a method that is called -/
def YV (y : MethodName) (b : ByteArray) (n : Nat) (rt : Option FieldType) (k : Nat) : Prop := Cond.code y b n rt ∈ WL ∧ Cond.initialized y.cls ∈ WL ∧ Cond.instanceMethod y ∈ WL ∧ Cond.selects y.cls y y ∈ WL ∧ (y.cls ≠ "java/lang/invoke/MethodHandle" ∧ y.cls ≠ "java/lang/invoke/VarHandle" ∧ (parseMethodDescriptor y.desc).map (fun d => d.parameters.length) = some k)
def YS (y : MethodName) (b : ByteArray) (n : Nat) (rt : Option FieldType) (k : Nat) : Prop := Cond.code y b n rt ∈ WL ∧ Cond.initialized y.cls ∈ WL ∧ Cond.static y ∈ WL ∧ (y.cls ≠ "java/lang/invoke/MethodHandle" ∧ y.cls ≠ "java/lang/invoke/VarHandle" ∧ (parseMethodDescriptor y.desc).map (fun d => d.parameters.length) = some k)
/-- the cells at the places is get what qs says -/
def rp : va_W → List Nat → va_W → va_W
  | ws, i :: is, q :: qs => rp (ws.set i q) is qs
  | ws, _, _ => ws
theorem rp_get : ∀ (is : List Nat) (qs : va_W) (ws : va_W), is.length = qs.length → (∀ (i j a : Nat), is[i]? = some a → is[j]? = some a → i = j) → (∀ i ∈ is, i < ws.length) → ∀ (i : Nat), (i ∉ is → (rp ws is qs)[i]? = ws[i]?) ∧ (∀ (j : Nat), is[j]? = some i → (rp ws is qs)[i]? = qs[j]?)
  | [], qs, ws, _, _, _, i => ⟨fun _ => by simp [rp], fun j h => by simp at h⟩
  | x :: is, [], ws, hl, _, _, i => by simp at hl
  | x :: is, q :: qs, ws, hl, hinj, hlt, i => by
    have ih := rp_get is qs (ws.set x q) (by simpa using hl) (fun a b c h1 h2 => by have := hinj (a + 1) (b + 1) c (by simpa using h1) (by simpa using h2); omega) (fun i hi => by rw [List.length_set]; exact hlt i (List.mem_cons_of_mem _ hi)) i
    constructor
    · intro h
      rw [show rp ws (x :: is) (q :: qs) = rp (ws.set x q) is qs from rfl, ih.1 (fun h2 => h (List.mem_cons_of_mem _ h2)), List.getElem?_set_ne (fun e => h (by rw [e]; exact List.mem_cons_self))]
    · intro j hj
      cases j with
      | zero =>
        have hx : x = i := by simpa using hj
        subst hx
        have hni : x ∉ is := fun h2 => by
          obtain ⟨k, hk⟩ := List.getElem?_of_mem h2
          have := hinj 0 (k + 1) x rfl (by simpa using hk)
          omega
        rw [show rp ws (x :: is) (q :: qs) = rp (ws.set x q) is qs from rfl, ih.1 hni, List.getElem?_set_self (hlt x List.mem_cons_self)]
        rfl
      | succ j => exact ih.2 j (by simpa using hj)
theorem rp_all {ws w1 : va_W} {is : List Nat} (hi : is = List.range ws.length) (hl : w1.length = ws.length) : rp ws is w1 = w1 := by
  have G := rp_get is w1 ws (by rw [hi, List.length_range, hl]) (fun i j a h1 h2 => by
    rw [hi] at h1 h2
    have e1 := List.getElem?_eq_some_iff.mp h1
    have e2 := List.getElem?_eq_some_iff.mp h2
    obtain ⟨q1, e1⟩ := e1
    obtain ⟨q2, e2⟩ := e2
    rw [List.getElem_range] at e1 e2
    omega) (fun i h => by rw [hi] at h; exact List.mem_range.mp h)
  apply List.ext_getElem?
  intro i
  by_cases h : i < ws.length
  · exact (G i).2 i (by rw [hi, List.getElem?_range h])
  · rw [(G i).1 (fun h2 => h (by rw [hi] at h2; exact List.mem_range.mp h2)), List.getElem?_eq_none (by omega), List.getElem?_eq_none (by omega)]
theorem rp_same : ∀ {is : List Nat} {wc ws : va_W}, is.map (fun i => ws[i]?) = wc.map some → rp ws is wc = ws
  | [], wc, ws, _ => by cases wc <;> rfl
  | i :: is, [], ws, h => by cases h
  | i :: is, q :: wc, ws, h => by
    have h1 : ws[i]? = some q := by
      have := List.cons.inj h
      exact this.1
    have h2 : is.map (fun i => ws[i]?) = wc.map some := (List.cons.inj h).2
    have e : ws.set i q = ws := by
      apply List.ext_getElem?
      intro j
      by_cases hj : i = j
      · subst hj
        rw [List.getElem?_set_self (List.getElem?_eq_some_iff.mp h1).1, h1]
      · rw [List.getElem?_set_ne hj]
    show rp (ws.set i q) is wc = ws
    rw [e]
    exact rp_same h2
section CALLS
theorem lv_topn {p : Program} {l : Launch} {e : Env} {R : Room} {s : State} {m : MethodId} {args : Array Value} {below : List Frame} {meth : Method} {c : Code} {H : Heap} {locs : List Loc} {cells slots : Nat} {Q : State → Prop} {pc : Nat} {ls : Array Slot} {rest : List Value} {x y : Int32} (h : y = x) (k : W p l e R s m args below meth c H locs cells slots Q (F0 m pc ls (.int y :: rest))) : W p l e R s m args below meth c H locs cells slots Q (F0 m pc ls (.int x :: rest)) := h ▸ k
theorem lv_topnl {p : Program} {l : Launch} {e : Env} {R : Room} {s : State} {m : MethodId} {args : Array Value} {below : List Frame} {meth : Method} {c : Code} {H : Heap} {locs : List Loc} {cells slots : Nat} {Q : State → Prop} {pc : Nat} {ls : Array Slot} {rest : List Value} {x y : Int64} (h : y = x) (k : W p l e R s m args below meth c H locs cells slots Q (F0 m pc ls (.long y :: rest))) : W p l e R s m args below meth c H locs cells slots Q (F0 m pc ls (.long x :: rest)) := h ▸ k
variable {p : Program} {l : Launch} {e : Env} {R : Room} {s : State} {m : MethodId} {args : Array Value} {below : List Frame} {meth : Method} {c : Code} {H : Heap} {locs : List Loc} {cells slots : Nat} {Q : State → Prop}
variable {own : String} {cc b : ByteArray} {nL n k index pc ci : Nat} {rt : Option FieldType} {rm : Room} {D : va_G} {ty : List (ClassId × FieldType)} {A : Nat → Prop} {y : MethodName} {As rest : List Value} {ls : Array Slot} {a : Nat} {fs : List Value} {ws wc wr w1 ws' : va_W} {r : Int32} {E host : String} {T : u_T} {N : Nat} {sz0 : Nat} {Qc : Array Value → State → Outcome → State → Prop} {free : Addr → Prop} {mc ms : Nat} {w0 : va_W}
theorem c_at {av : List Value} (C0 : CX p s m args c own cc nL D ty A) (hP : va_P D vwCl ws H) (hD : va_D A ws) (hS : va_S A s.heap H locs) (isC : List Nat) (hC : isC.map (fun i => ws[i]?) = wc.map some) (hn : va_nd isC = true) : ∀ U : State, U.heap = H → s.WarmedH U.vm → cPc D ty av wc H.size av.toArray U := by
  obtain ⟨-, -, -, -, -, hK, hE, hA⟩ := C0
  intro U hU hW
  have hFc := va_free (wc := wc) hD hS hA isC hC
  have hPc : va_P D vwCl wc H := fun j q hq => by
    have h1 : (isC.map (fun i => ws[i]?))[j]? = some (some q) := by rw [hC, List.getElem?_map, hq]; rfl
    rw [List.getElem?_map] at h1
    cases hi : isC[j]? with
    | none => rw [hi] at h1; cases h1
    | some i =>
      rw [hi] at h1
      exact hP i q (Option.some.inj h1)
  exact ⟨rfl, by rw [hU], by rw [hU]; exact hPc, va_K.moved hW.alike hK, (hD.sub isC hn hC).weaken (fun _ _ _ _ => trivial), by rw [hU]; exact EV.warm hW ((hE.kept hS.2.1).narrow hFc)⟩
theorem c_in (isC : List Nat) (hC : isC.map (fun i => ws[i]?) = wc.map some) {j : Nat} {q : Nat × va_E} (hq : wc[j]? = some q) : ∃ i, isC[j]? = some i ∧ ws[i]? = some q := by
  have h1 : (isC.map (fun i => ws[i]?))[j]? = some (some q) := by rw [hC, List.getElem?_map, hq]; rfl
  rw [List.getElem?_map] at h1
  cases hi : isC[j]? with
  | none => rw [hi] at h1; cases h1
  | some i =>
    rw [hi] at h1
    exact ⟨i, rfl, Option.some.inj h1⟩
theorem c_kk (C0 : CX p s m args c own cc nL D ty A) (hP : va_P D vwCl ws H) (hD : va_D A ws) (hS : va_S A s.heap H locs) (isC : List Nat) (hC : isC.map (fun i => ws[i]?) = wc.map some) (hn : va_nd isC = true) (hw : w1.map (fun q => q.1) = wc.map (fun q => q.1))
    {t : State} {H1 : Heap} (ht : t.heap = H1) (hb : cB D ty (va_A wc H.size) w1 t) (hk : ∀ q : Nat, q < H.size → ¬ va_A wc H.size q → H1[q]? = H[q]?) : va_P D vwCl (rp ws isC w1) H1 ∧ va_D A (rp ws isC w1) := by
  obtain ⟨hP1, -, -⟩ := hb
  rw [ht] at hP1
  have hl1 : isC.length = w1.length := by
    have e1 := congrArg List.length hC
    have e2 := congrArg List.length hw
    simp only [List.length_map] at e1 e2
    omega
  have hinj := va_nd_inj isC hn
  have hlt : ∀ i ∈ isC, i < ws.length := by
    intro i hi
    obtain ⟨j, hj⟩ := List.getElem?_of_mem hi
    have h1 : (isC.map (fun i => ws[i]?))[j]? = some (ws[i]?) := by rw [List.getElem?_map, hj]; rfl
    rw [hC, List.getElem?_map] at h1
    cases hq : wc[j]? with
    | none => rw [hq] at h1; cases h1
    | some q =>
      rw [hq] at h1
      have h2 : some q = ws[i]? := Option.some.inj h1
      exact (List.getElem?_eq_some_iff.mp h2.symm).1
  have G := rp_get isC w1 ws hl1 hinj hlt
  have addr : ∀ (i : Nat) (q : Nat × va_E), (rp ws isC w1)[i]? = some q → ∃ q', ws[i]? = some q' ∧ q'.1 = q.1 := by
    intro i q hq
    by_cases hi : i ∈ isC
    · obtain ⟨j, hj⟩ := List.getElem?_of_mem hi
      have e := (G i).2 j hj
      rw [hq] at e
      have e3 : (w1.map (fun q => q.1))[j]? = some q.1 := by rw [List.getElem?_map, ← e]; rfl
      rw [hw, List.getElem?_map] at e3
      cases hc : wc[j]? with
      | none => rw [hc] at e3; cases e3
      | some q' =>
        rw [hc] at e3
        obtain ⟨i', h1, h2⟩ := c_in isC hC hc
        cases Option.some.inj (hj.symm.trans h1)
        exact ⟨q', h2, Option.some.inj e3⟩
    · rw [(G i).1 hi] at hq
      exact ⟨q, hq, rfl⟩
  refine ⟨fun i q hq => ?_, fun i j p q hp hq he => ?_, fun i q hq => ?_⟩
  · by_cases hi : i ∈ isC
    · obtain ⟨j, hj⟩ := List.getElem?_of_mem hi
      rw [(G i).2 j hj] at hq
      exact hP1 j q hq
    · rw [(G i).1 hi] at hq
      refine (hP i q hq).kept (hk q.1 (hP i q hq).lt ?_)
      rintro (⟨j, e, he⟩ | hge)
      · obtain ⟨i', h1, h2⟩ := c_in isC hC he
        have : i' = i := hD.1 i' i _ _ h2 hq rfl
        subst this
        exact hi (List.mem_of_getElem? h1)
      · exact absurd (hP i q hq).lt (Nat.not_lt.mpr hge)
  · obtain ⟨p', h1, h2⟩ := addr i p hp
    obtain ⟨q', h3, h4⟩ := addr j q hq
    exact hD.1 i j p' q' h1 h3 (by rw [h2, h4]; exact he)
  · obtain ⟨q', h3, h4⟩ := addr i q hq
    rw [← h4]
    exact hD.2 i q' h3
theorem c_free (C0 : CX p s m args c own cc nL D ty A) (hD : va_D A ws) (hS : va_S A s.heap H locs) (isC : List Nat) (hC : isC.map (fun i => ws[i]?) = wc.map some) : ∀ q, va_A wc H.size q → A q := va_free (wc := wc) hD hS C0.2.2.2.2.2.2.2 isC hC
theorem c_cwV (C0 : CX p s m args c own cc nL D ty A) (hY : YV y b n rt k) (hl : Cond.methodLink own index y ∈ WL) (hR : rm.frames + 1 ≤ R.frames ∧ 8 + (n + 11) + rm.locals ≤ R.locals) (hrc : rm.cells = mc) (hrs : rm.slots = ms) : CallW R s args own y.cls index y b n rt (.code y b n rt :: WL) rm mc ms k := by
  obtain ⟨-, -, -, -, hts, -⟩ := C0
  obtain ⟨h1, h2, h3, h4, h5⟩ := hY
  exact ⟨callB_of k hts (WL_good h1) rfl hrc hrs (hts _ h2) (hts _ hl) h5 hR, hts _ h3, hts _ h4⟩
theorem c_cwS (C0 : CX p s m args c own cc nL D ty A) (hY : YS y b n rt k) (hl : Cond.methodLink own index y ∈ WL) (hR : rm.frames + 1 ≤ R.frames ∧ 8 + (n + 11) + rm.locals ≤ R.locals) (hrc : rm.cells = mc) (hrs : rm.slots = ms) : CallB R s args own index y b n rt (.code y b n rt :: WL) rm mc ms k ∧ (Cond.static y).before args s = true := by
  obtain ⟨-, -, -, -, hts, -⟩ := C0
  obtain ⟨h1, h2, h3, h5⟩ := hY
  exact ⟨callB_of k hts (WL_good h1) rfl hrc hrs (hts _ h2) (hts _ hl) h5 hR, hts _ h3⟩
theorem c_cwN (C0 : CX p s m args c own cc nL D ty A) (hY : YS y b n rt k) (hl : (own, index, y, host) ∈ NM) (hR : rm.frames + 1 ≤ R.frames ∧ 8 + (n + 11) + rm.locals ≤ R.locals) (hrc : rm.cells = mc) (hrs : rm.slots = ms) : va_CN R s args own index y host b n rt (.code y b n rt :: WL) rm mc ms k ∧ (Cond.static y).before args s = true ∧ True := by
  obtain ⟨-, -, -, -, hts, -, hE, -⟩ := C0
  obtain ⟨h1, h2, h3, h5⟩ := hY
  exact ⟨va_cnB k hts (WL_good h1) rfl hrc hrs (hE.2.1 _ hl) (hts _ h2) h5 hR, hts _ h3, trivial⟩
theorem c_fix (C0 : CX p s m args c own cc nL D ty A) : CallFix p m c cc nL s args WL own := ⟨C0.1, C0.2.1, C0.2.2.1, C0.2.2.2.1, C0.2.2.2.2.1⟩
theorem cVi (C0 : CX p s m args c own cc nL D ty A) (hP : va_P D vwCl ws H) (hD : va_D A ws) (hS : va_S A s.heap H locs) (hls : ls.size = nL) (isC : List Nat) (hM : MI l y b n rt rm D ty (.ref a :: As) wc H.size r w1) (hY : YV y b n rt k) (hl : Cond.methodLink own index y ∈ WL) (hc : vwCl[ci]? = some (y.cls, T, N)) (hr0 : wc[0]? = some (a, .inr (ci, fs))) (hC : isC.map (fun i => ws[i]?) = wc.map some) (hn : va_nd isC = true) (hw : w1.map (fun q => q.1) = wc.map (fun q => q.1)) (hws : rp ws isC w1 = ws')
    (hRm : rm.frames + 1 ≤ R.frames ∧ 8 + (n + 11) + rm.locals ≤ R.locals) (hrc : rm.cells = 0 ∧ rm.slots = 0) (hlen : As.length = k) (hst : (rest.map fun v => v.category).sum ≤ 8) (hdg : decode cc pc = .ok (.invokevirtual index, 3)) (hcs : cells ≤ R.cells ∧ slots ≤ R.slots)
    (kk : ∀ (H1 : Heap) (locs1 : List Loc), va_P D vwCl ws' H1 → va_D A ws' → va_S A s.heap H1 locs1 → W p l e R s m args below meth c H1 locs1 cells slots Q (F0 m (pc + 3) ls (.int r :: rest))) : W p l e R s m args below meth c H locs cells slots Q (F0 m pc ls (As.reverse ++ .ref a :: rest)) := by
  have hFc := c_free C0 hD hS isC hC
  have hPc : va_P D vwCl wc H := by
    have h := c_at (av := []) C0 hP hD hS isC hC hn
    exact fun j q hq => by
      have h1 : (isC.map (fun i => ws[i]?))[j]? = some (some q) := by rw [hC, List.getElem?_map, hq]; rfl
      rw [List.getElem?_map] at h1
      cases hi : isC[j]? with
      | none => rw [hi] at h1; cases h1
      | some i =>
        rw [hi] at h1
        exact hP i q (Option.some.inj h1)
  have hp : PreV s H y.cls a (cPc D ty (.ref a :: As) wc H.size) As := ⟨cPc_blind, va_recv C0.2.2.2.2.2.1 hPc (ci := ci) (q0 := 0) hc hr0, c_at C0 hP hD hS isC hC hn⟩
  refine va_calli (va_runV (C := y.cls) (b := a) (As := As) (rest := rest) (c_fix C0) hM (c_cwV C0 hY hl hRm hrc.1 hrc.2) hp rfl hlen hls rfl (lv_room hst) hdg ⟨by rw [Nat.add_zero]; exact hcs.1, by rw [Nat.add_zero]; exact hcs.2⟩) hS (fun q _ h => hFc q h) hFc (fun r1 u t H1 locs1 ht hvm hr1 hb hz1 hk1 hS1 => ?_)
  obtain ⟨hP2, hD2⟩ := c_kk C0 hP hD hS isC hC hn hw ht hb hk1
  subst hr1
  exact kk H1 locs1 (hws ▸ hP2) (hws ▸ hD2) hS1
theorem cVv (C0 : CX p s m args c own cc nL D ty A) (hP : va_P D vwCl ws H) (hD : va_D A ws) (hS : va_S A s.heap H locs) (hls : ls.size = nL) (isC : List Nat) (hM : MV l y b n rt rm D ty (.ref a :: As) wc H.size w1) (hY : YV y b n rt k) (hl : Cond.methodLink own index y ∈ WL) (hc : vwCl[ci]? = some (y.cls, T, N)) (hr0 : wc[0]? = some (a, .inr (ci, fs))) (hC : isC.map (fun i => ws[i]?) = wc.map some) (hn : va_nd isC = true) (hw : w1.map (fun q => q.1) = wc.map (fun q => q.1)) (hws : rp ws isC w1 = ws')
    (hRm : rm.frames + 1 ≤ R.frames ∧ 8 + (n + 11) + rm.locals ≤ R.locals) (hrc : rm.cells = 0 ∧ rm.slots = 0) (hlen : As.length = k) (hst : (rest.map fun v => v.category).sum ≤ 8) (hdg : decode cc pc = .ok (.invokevirtual index, 3)) (hcs : cells ≤ R.cells ∧ slots ≤ R.slots)
    (kk : ∀ (H1 : Heap) (locs1 : List Loc), va_P D vwCl ws' H1 → va_D A ws' → va_S A s.heap H1 locs1 → W p l e R s m args below meth c H1 locs1 cells slots Q (F0 m (pc + 3) ls (rest))) : W p l e R s m args below meth c H locs cells slots Q (F0 m pc ls (As.reverse ++ .ref a :: rest)) := by
  have hFc := c_free C0 hD hS isC hC
  have hPc : va_P D vwCl wc H := by
    have h := c_at (av := []) C0 hP hD hS isC hC hn
    exact fun j q hq => by
      have h1 : (isC.map (fun i => ws[i]?))[j]? = some (some q) := by rw [hC, List.getElem?_map, hq]; rfl
      rw [List.getElem?_map] at h1
      cases hi : isC[j]? with
      | none => rw [hi] at h1; cases h1
      | some i =>
        rw [hi] at h1
        exact hP i q (Option.some.inj h1)
  have hp : PreV s H y.cls a (cPc D ty (.ref a :: As) wc H.size) As := ⟨cPc_blind, va_recv C0.2.2.2.2.2.1 hPc (ci := ci) (q0 := 0) hc hr0, c_at C0 hP hD hS isC hC hn⟩
  refine va_callv (va_runV (C := y.cls) (b := a) (As := As) (rest := rest) (c_fix C0) hM (c_cwV C0 hY hl hRm hrc.1 hrc.2) hp rfl hlen hls rfl (lv_room hst) hdg ⟨by rw [Nat.add_zero]; exact hcs.1, by rw [Nat.add_zero]; exact hcs.2⟩) hS (fun q _ h => hFc q h) hFc (fun u t H1 locs1 ht hvm hr1 hb hz1 hk1 hS1 => ?_)
  obtain ⟨hP2, hD2⟩ := c_kk C0 hP hD hS isC hC hn hw ht hb hk1
  exact kk H1 locs1 (hws ▸ hP2) (hws ▸ hD2) hS1
theorem cSi (C0 : CX p s m args c own cc nL D ty A) (hP : va_P D vwCl ws H) (hD : va_D A ws) (hS : va_S A s.heap H locs) (hls : ls.size = nL) (isC : List Nat) (hM : MI l y b n rt rm D ty As wc H.size r w1) (hY : YS y b n rt k) (hl : Cond.methodLink own index y ∈ WL) (hC : isC.map (fun i => ws[i]?) = wc.map some) (hn : va_nd isC = true) (hw : w1.map (fun q => q.1) = wc.map (fun q => q.1)) (hws : rp ws isC w1 = ws')
    (hRm : rm.frames + 1 ≤ R.frames ∧ 8 + (n + 11) + rm.locals ≤ R.locals) (hrc : rm.cells = 0 ∧ rm.slots = 0) (hlen : As.length = k) (hst : (rest.map fun v => v.category).sum ≤ 8) (hdg : decode cc pc = .ok (.invokestatic index, 3)) (hcs : cells ≤ R.cells ∧ slots ≤ R.slots)
    (kk : ∀ (H1 : Heap) (locs1 : List Loc), va_P D vwCl ws' H1 → va_D A ws' → va_S A s.heap H1 locs1 → W p l e R s m args below meth c H1 locs1 cells slots Q (F0 m (pc + 3) ls (.int r :: rest))) : W p l e R s m args below meth c H locs cells slots Q (F0 m pc ls (As.reverse ++ rest)) := by
  have hFc := c_free C0 hD hS isC hC
  have hp : PreS s H (cPc D ty As wc H.size) As := ⟨cPc_blind, c_at C0 hP hD hS isC hC hn⟩
  refine va_calli (va_runS (As := As) (rest := rest) (c_fix C0) hM (c_cwS C0 hY hl hRm hrc.1 hrc.2) hp rfl hlen hls rfl (lv_room hst) hdg ⟨by rw [Nat.add_zero]; exact hcs.1, by rw [Nat.add_zero]; exact hcs.2⟩) hS (fun q _ h => hFc q h) hFc (fun r1 u t H1 locs1 ht hvm hr1 hb hz1 hk1 hS1 => ?_)
  obtain ⟨hP2, hD2⟩ := c_kk C0 hP hD hS isC hC hn hw ht hb hk1
  subst hr1
  exact kk H1 locs1 (hws ▸ hP2) (hws ▸ hD2) hS1
theorem cSv (C0 : CX p s m args c own cc nL D ty A) (hP : va_P D vwCl ws H) (hD : va_D A ws) (hS : va_S A s.heap H locs) (hls : ls.size = nL) (isC : List Nat) (hM : MV l y b n rt rm D ty As wc H.size w1) (hY : YS y b n rt k) (hl : Cond.methodLink own index y ∈ WL) (hC : isC.map (fun i => ws[i]?) = wc.map some) (hn : va_nd isC = true) (hw : w1.map (fun q => q.1) = wc.map (fun q => q.1)) (hws : rp ws isC w1 = ws')
    (hRm : rm.frames + 1 ≤ R.frames ∧ 8 + (n + 11) + rm.locals ≤ R.locals) (hrc : rm.cells = 0 ∧ rm.slots = 0) (hlen : As.length = k) (hst : (rest.map fun v => v.category).sum ≤ 8) (hdg : decode cc pc = .ok (.invokestatic index, 3)) (hcs : cells ≤ R.cells ∧ slots ≤ R.slots)
    (kk : ∀ (H1 : Heap) (locs1 : List Loc), va_P D vwCl ws' H1 → va_D A ws' → va_S A s.heap H1 locs1 → W p l e R s m args below meth c H1 locs1 cells slots Q (F0 m (pc + 3) ls (rest))) : W p l e R s m args below meth c H locs cells slots Q (F0 m pc ls (As.reverse ++ rest)) := by
  have hFc := c_free C0 hD hS isC hC
  have hp : PreS s H (cPc D ty As wc H.size) As := ⟨cPc_blind, c_at C0 hP hD hS isC hC hn⟩
  refine va_callv (va_runS (As := As) (rest := rest) (c_fix C0) hM (c_cwS C0 hY hl hRm hrc.1 hrc.2) hp rfl hlen hls rfl (lv_room hst) hdg ⟨by rw [Nat.add_zero]; exact hcs.1, by rw [Nat.add_zero]; exact hcs.2⟩) hS (fun q _ h => hFc q h) hFc (fun u t H1 locs1 ht hvm hr1 hb hz1 hk1 hS1 => ?_)
  obtain ⟨hP2, hD2⟩ := c_kk C0 hP hD hS isC hC hn hw ht hb hk1
  exact kk H1 locs1 (hws ▸ hP2) (hws ▸ hD2) hS1
theorem cNi (C0 : CX p s m args c own cc nL D ty A) (hP : va_P D vwCl ws H) (hD : va_D A ws) (hS : va_S A s.heap H locs) (hls : ls.size = nL) (isC : List Nat) (hM : MI l y b n rt rm D ty As wc H.size r w1) (hY : YS y b n rt k) (hl : (own, index, y, host) ∈ NM) (hC : isC.map (fun i => ws[i]?) = wc.map some) (hn : va_nd isC = true) (hw : w1.map (fun q => q.1) = wc.map (fun q => q.1)) (hws : rp ws isC w1 = ws')
    (hRm : rm.frames + 1 ≤ R.frames ∧ 8 + (n + 11) + rm.locals ≤ R.locals) (hrc : rm.cells = 0 ∧ rm.slots = 0) (hlen : As.length = k) (hst : (rest.map fun v => v.category).sum ≤ 8) (hdg : decode cc pc = .ok (.invokestatic index, 3)) (hcs : cells ≤ R.cells ∧ slots ≤ R.slots)
    (kk : ∀ (H1 : Heap) (locs1 : List Loc), va_P D vwCl ws' H1 → va_D A ws' → va_S A s.heap H1 locs1 → W p l e R s m args below meth c H1 locs1 cells slots Q (F0 m (pc + 3) ls (.int r :: rest))) : W p l e R s m args below meth c H locs cells slots Q (F0 m pc ls (As.reverse ++ rest)) := by
  have hFc := c_free C0 hD hS isC hC
  have hp : PreS s H (cPc D ty As wc H.size) As := ⟨cPc_blind, c_at C0 hP hD hS isC hC hn⟩
  refine va_calli (va_runSN (As := As) (rest := rest) (c_fix C0) hM (c_cwN C0 hY hl hRm hrc.1 hrc.2) hp rfl hlen hls rfl (lv_room hst) hdg ⟨by rw [Nat.add_zero]; exact hcs.1, by rw [Nat.add_zero]; exact hcs.2⟩) hS (fun q _ h => hFc q h) hFc (fun r1 u t H1 locs1 ht hvm hr1 hb hz1 hk1 hS1 => ?_)
  obtain ⟨hP2, hD2⟩ := c_kk C0 hP hD hS isC hC hn hw ht hb hk1
  subst hr1
  exact kk H1 locs1 (hws ▸ hP2) (hws ▸ hD2) hS1
theorem cNv (C0 : CX p s m args c own cc nL D ty A) (hP : va_P D vwCl ws H) (hD : va_D A ws) (hS : va_S A s.heap H locs) (hls : ls.size = nL) (isC : List Nat) (hM : MV l y b n rt rm D ty As wc H.size w1) (hY : YS y b n rt k) (hl : (own, index, y, host) ∈ NM) (hC : isC.map (fun i => ws[i]?) = wc.map some) (hn : va_nd isC = true) (hw : w1.map (fun q => q.1) = wc.map (fun q => q.1)) (hws : rp ws isC w1 = ws')
    (hRm : rm.frames + 1 ≤ R.frames ∧ 8 + (n + 11) + rm.locals ≤ R.locals) (hrc : rm.cells = 0 ∧ rm.slots = 0) (hlen : As.length = k) (hst : (rest.map fun v => v.category).sum ≤ 8) (hdg : decode cc pc = .ok (.invokestatic index, 3)) (hcs : cells ≤ R.cells ∧ slots ≤ R.slots)
    (kk : ∀ (H1 : Heap) (locs1 : List Loc), va_P D vwCl ws' H1 → va_D A ws' → va_S A s.heap H1 locs1 → W p l e R s m args below meth c H1 locs1 cells slots Q (F0 m (pc + 3) ls (rest))) : W p l e R s m args below meth c H locs cells slots Q (F0 m pc ls (As.reverse ++ rest)) := by
  have hFc := c_free C0 hD hS isC hC
  have hp : PreS s H (cPc D ty As wc H.size) As := ⟨cPc_blind, c_at C0 hP hD hS isC hC hn⟩
  refine va_callv (va_runSN (As := As) (rest := rest) (c_fix C0) hM (c_cwN C0 hY hl hRm hrc.1 hrc.2) hp rfl hlen hls rfl (lv_room hst) hdg ⟨by rw [Nat.add_zero]; exact hcs.1, by rw [Nat.add_zero]; exact hcs.2⟩) hS (fun q _ h => hFc q h) hFc (fun u t H1 locs1 ht hvm hr1 hb hz1 hk1 hS1 => ?_)
  obtain ⟨hP2, hD2⟩ := c_kk C0 hP hD hS isC hC hn hw ht hb hk1
  exact kk H1 locs1 (hws ▸ hP2) (hws ▸ hD2) hS1
end CALLS
