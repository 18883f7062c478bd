abbrev xISE : String := "java/lang/IllegalStateException"
abbrev xIAE : String := "java/lang/IllegalArgumentException"
abbrev xIOE : String := "java/lang/IndexOutOfBoundsException"
theorem rRoom_ok {a b : Int32} (h : a < b) : f_Cc_requireRoom a b = some (.inl ()) := if_pos h
theorem rRoom_no {a b : Int32} (h : ¬ a < b) : f_Cc_requireRoom a b = some (.inr xISE) := if_neg h
theorem rRange_ok {a b d : Int32} (h : ¬ a < b) (h2 : a ≤ d) : f_Cc_requireRange a b d = some (.inl ()) := by
  unfold f_Cc_requireRange
  rw [if_neg h, if_pos h2]
theorem rRange_no {a b d : Int32} (h : ¬ (¬ a < b ∧ a ≤ d)) : f_Cc_requireRange a b d = some (.inr xIAE) := by
  unfold f_Cc_requireRange
  by_cases h1 : a < b
  · rw [if_pos h1]; rfl
  · rw [if_neg h1, if_neg (fun h2 => h ⟨h1, h2⟩)]; rfl
theorem rIndex_ok {a b : Int32} (h : ¬ a < 0) (h2 : a < b) : f_Cc_requireIndex a b = some (.inl ()) := by
  unfold f_Cc_requireIndex
  rw [if_neg h, if_pos h2]
theorem rIndex_no {a b : Int32} (h : ¬ (¬ a < 0 ∧ a < b)) : f_Cc_requireIndex a b = some (.inr xIOE) := by
  unfold f_Cc_requireIndex
  by_cases h1 : a < 0
  · rw [if_pos h1]; rfl
  · rw [if_neg h1, if_neg (fun h2 => h ⟨h1, h2⟩)]; rfl
theorem wi_ok {a b d : Int32} (h : ¬ a < b) (h2 : a ≤ d) : f_Mo_within a b d = some 1 := by
  unfold f_Mo_within
  rw [if_neg h, if_neg (Int32.not_lt.mpr h2)]
theorem wi_no {a b d : Int32} (h : ¬ (¬ a < b ∧ a ≤ d)) : f_Mo_within a b d = some 0 := by
  unfold f_Mo_within
  by_cases h1 : a < b
  · rw [if_pos h1]
  · rw [if_neg h1, if_pos (Int32.not_le.mp (fun h2 => h ⟨h1, h2⟩))]
theorem goes_ok (o : St) : f_Mo_goes o 1 1 1 = some (1, up2 o 0 0 0) := rfl
theorem goes_1 (o : St) (b d : Int32) : f_Mo_goes o 0 b d = some (0, up2 o 0 0 1) := rfl
theorem goes_2 (o : St) (d : Int32) : f_Mo_goes o 1 0 d = some (0, up2 o 0 0 2) := rfl
theorem goes_3 (o : St) : f_Mo_goes o 1 1 0 = some (0, up2 o 0 0 3) := rfl
/-- the two agree: both refuse, or both answer r and what I says holds behind it -/
def AGR {X : Type} (codes : List (String × Int32)) (fc : Option ((Int32 × X) ⊕ String)) (fm : Option (Int32 × St)) (o : St) (I : X → St → Prop) : Prop :=
  (∃ (E : String) (k b : Int32), (E, k) ∈ codes ∧ fc = some (.inr E) ∧ fm = some (b, up2 o 0 0 k)) ∨ (∃ (r : Int32) (x : X) (o' : St), fc = some (.inl (r, x)) ∧ fm = some (r, o') ∧ o' 0 0 = 0 ∧ I x o')
def AGR0 (codes : List (String × Int32)) (fc : Option (Int32 ⊕ String)) (fm : Option (Int32 × St)) (o : St) (I : St → Prop) : Prop :=
  (∃ (E : String) (k b : Int32), (E, k) ∈ codes ∧ fc = some (.inr E) ∧ fm = some (b, up2 o 0 0 k)) ∨ (∃ (r : Int32) (o' : St), fc = some (.inl r) ∧ fm = some (r, o') ∧ o' 0 0 = 0 ∧ I o')
def AGRV {X : Type} (codes : List (String × Int32)) (fc : Option (X ⊕ String)) (fm : Option St) (o : St) (I : X → St → Prop) : Prop :=
  (∃ (E : String) (k : Int32), (E, k) ∈ codes ∧ fc = some (.inr E) ∧ fm = some (up2 o 0 0 k)) ∨ (∃ (x : X) (o' : St), fc = some (.inl x) ∧ fm = some o' ∧ o' 0 0 = 0 ∧ I x o')
-- numbers
theorem i_le {a b : Int32} : a ≤ b ↔ a.toInt ≤ b.toInt := Int32.le_iff_toInt_le
theorem i_lt {a b : Int32} : a < b ↔ a.toInt < b.toInt := Int32.lt_iff_toInt_lt
theorem i_eq {a b : Int32} : a = b ↔ a.toInt = b.toInt := Int32.toInt_inj.symm
/-- an int between 0 and n is a natural below n -/
theorem ix_of {x : Int32} {n : Nat} (hn : n < 2 ^ 31) (h : ¬ x < 0) (h2 : x < nI n) : ∃ j : Nat, j < n ∧ x = nI j := by
  rcases pk_ix x hn with q | q | q
  · exact absurd q h
  · rw [i_le] at q; rw [i_lt] at h2; omega
  · exact q
theorem cl_nI {n : Nat} (h : n < 2 ^ 31) : (nI n).toNatClampNeg = n := nI_clamp h
theorem i_range {x : Int32} {a b : Nat} (hb : b < 2 ^ 31) (h : ¬ x < nI a) (h2 : x ≤ nI b) (ha : a < 2 ^ 31) : ∃ j : Nat, a ≤ j ∧ j ≤ b ∧ x = nI j := by
  have h0 : ¬ x < 0 := by
    intro q
    rw [i_lt] at q h
    rw [nI_toInt ha] at h
    have : (0 : Int32).toInt = 0 := rfl
    omega
  obtain ⟨j, hj, rfl⟩ := nI_of h0
  rw [i_lt, nI_toInt hj, nI_toInt ha] at h
  rw [i_le, nI_toInt hj, nI_toInt hb] at h2
  exact ⟨j, by omega, by omega, rfl⟩
