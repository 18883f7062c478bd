/-- which size of an object stands along an axis, by the way -/
def axi (w a : Nat) : Nat := [0, 1, 2, 1, 0, 2, 0, 2, 1, 2, 0, 1, 1, 2, 0, 2, 1, 0].getD (3 * w + a) 0
theorem axi_lt : ∀ w : Fin 6, ∀ a : Fin 3, axi w.val a.val < 3 := by decide
theorem axi_0 : ∀ w : Fin 6, axi w.val 0 = ax0 w.val := by decide
theorem axi_T : ∀ w : Fin 6, ∀ a : Fin 3, wayT (3 * w.val + a.val) = nI (axi w.val a.val) := by decide +kernel
theorem along_ok {o : St} {z w a : Nat} (hz : z < 6) (hw : w < 6) (ha : a < 3) : f_Mo_along o (nI z) (nI w) (nI a) = some (o 1 (3 * z + axi w a)) := by
  have key : ∀ (k : Nat), k < 3 → ∀ K : Int32, K = nI k → gb (inb (3 * nI z + K) 18) (letb (o 1 (3 * nI z + K).toNatClampNeg) (fun x => some x)) = some (o 1 (3 * z + k)) := by
    intro k hk K hK
    rw [hK, nI3, nI_add, gb_t (inb_of (show 3 * z + k < 18 by omega) (by decide)), cl_nI (show 3 * z + k < 2 ^ 31 by omega)]
    rfl
  rcases (show w = 0 ∨ w = 1 ∨ w = 2 ∨ w = 3 ∨ w = 4 ∨ w = 5 by omega) with rfl | rfl | rfl | rfl | rfl | rfl <;> rcases (show a = 0 ∨ a = 1 ∨ a = 2 by omega) with rfl | rfl | rfl
  · exact key 0 (by decide) _ rfl
  · exact key 1 (by decide) _ rfl
  · exact key 2 (by decide) _ rfl
  · exact key 1 (by decide) _ rfl
  · exact key 0 (by decide) _ rfl
  · exact key 2 (by decide) _ rfl
  · exact key 0 (by decide) _ rfl
  · exact key 2 (by decide) _ rfl
  · exact key 1 (by decide) _ rfl
  · exact key 2 (by decide) _ rfl
  · exact key 0 (by decide) _ rfl
  · exact key 1 (by decide) _ rfl
  · exact key 1 (by decide) _ rfl
  · exact key 2 (by decide) _ rfl
  · exact key 0 (by decide) _ rfl
  · exact key 2 (by decide) _ rfl
  · exact key 1 (by decide) _ rfl
  · exact key 0 (by decide) _ rfl
theorem sizeOf_ok {g : St} {z w a : Nat} (hz : z < 6) (hw : w < 6) (ha : a < 3) : f_Go_sizeOf g (nI z) (nI w) (nI a) = some (g 1 (3 * z + axi w a)) := by
  have h1 := axi_lt ⟨w, hw⟩ ⟨a, ha⟩
  have h2 : wayT (3 * w + a) = nI (axi w a) := axi_T ⟨w, hw⟩ ⟨a, ha⟩
  simp only at h1
  unfold f_Go_sizeOf
  rw [nI3', nI_add, gb_t (inb_of (show 3 * w + a < 18 by omega) (by decide)), cl_nI (show 3 * w + a < 2 ^ 31 by omega), h2]
  simp only [letb]
  rw [nI3', nI_add, gb_t (inb_of (show 3 * z + axi w a < 18 by omega) (by decide)), cl_nI (show 3 * z + axi w a < 2 ^ 31 by omega)]
theorem at_l {o : St} {j gp n : Nat} {p2 : Int32} {len : Nat → Nat} (hj : j < 6) (hgp : o 0 13 = nI gp) (hw : ∀ z, z < 6 → o 9 z = -1 ∨ ∃ w : Nat, w < 6 ∧ z < n ∧ o 9 z = nI w) (hlen : ∀ z w, z < 6 → o 9 z = nI w → w < 6 → z < n → o 1 (3 * z + axi w 0) = nI (len z)) : ∀ (m i : Nat), i ≤ j → j < i + m →
    it3 (f_Mo_at_L44 (nI j) p2) m (nI (begs len (o 9) gp i)) (nI i) o = f_Mo_at_X93 (nI j) p2 (nI (begs len (o 9) gp j)) (nI j) o := by
  intro m
  induction m with
  | zero => intro i h1 h2; omega
  | succ m ih =>
    intro i h1 h2
    rw [it3_s, f_Mo_at_L44]
    by_cases hi : i = j
    · subst hi
      rw [if_pos (nI_le (Nat.le_refl i) (by omega))]
    · rw [if_neg (nI_ge (by omega) (by omega))]
      unfold f_Mo_at_J86
      have hin : inb (nI i) 6 = true := inb_of (show i < 6 by omega) (by decide)
      simp only [letb, gb_t hin, cl_nI (show i < 2 ^ 31 by omega), nIp1]
      have := ih (i + 1) (by omega) (by omega)
      unfold begs at this
      rcases hw i (by omega) with q | ⟨w, q1, q2, q3⟩
      · rw [if_pos q] at this
        rw [if_pos q]
        rw [this]
        cases j <;> rfl
      · have hne : ¬ o 9 i = -1 := by rw [q3]; exact nI_m1 (by omega)
        rw [if_neg hne] at this
        rw [if_neg hne, q3, show f_Mo_along o (nI i) (nI w) 0 = some (o 1 (3 * i + axi w 0)) from along_ok (a := 0) (by omega) q1 (by omega), xv1_s, hlen i w (by omega) q3 q1 q2, hgp, nI_add, nI_add, this]
        cases j <;> rfl
theorem op_at {gGo gFo gPk : St} {qPk : Int64} {gSk gAi gSh gJo o : St} (h : INV gGo gFo gPk qPk gSk gAi gSh gJo o) (p1 p2 : Int32) : AGR0 [(xIOE, 1), (xISE, 2)] (f_Cc_at gGo gFo gPk qPk gSk gAi gSh gJo p1 p2) (f_Mo_at o p1 p2) o (fun o' => INV gGo gFo gPk qPk gSk gAi gSh gJo o') := by
  have hI := h
  obtain ⟨⟨n, h1, h2, h3, h4, -⟩, -, hP, -⟩ := h
  unfold f_Cc_at f_Pk_tell f_Mo_at f_Mo_at_J22
  rw [mo_isobj, h2, h3]
  by_cases hv : ¬ p1 < 0 ∧ p1 < nI n
  · rw [rIndex_ok hv.1 hv.2, if_pos hv]
    obtain ⟨j, hj, rfl⟩ := ix_of (by omega) hv.1 hv.2
    rw [rIndex_ok hv.1 (show nI j < 6 from nI_lt (b := 6) (by omega) (by decide)), xc0_l, xc0_l, xv1_s, if_neg n10]
    by_cases hw : p2 = -1 ∨ p2 = 0
    · have hw1 : ¬ p2 < (-1) ∧ p2 ≤ 0 := by rcases hw with rfl | rfl <;> decide
      have ht : (if p2 = (-1) then (f_Pk_tell_J25 gPk qPk (nI j) p2) else (if p2 = 0 then (f_Pk_tell_J25 gPk qPk (nI j) p2) else (some (.inr "java/lang/IndexOutOfBoundsException")))) = f_Pk_tell_J25 gPk qPk (nI j) p2 := by
        rcases hw with rfl | rfl <;> rfl
      rw [ht, wi_ok hw1.1 hw1.2, xv1_s, if_neg n10]
      unfold f_Pk_tell_J25 f_Mo_at_J23 f_Pk_requirePacked
      rcases hP with ⟨e1, e2⟩ | ⟨e1, e2, -, -, -, -, gp, n', e7, e8, e9, e10, e11, e12⟩
      · rw [if_pos e1, e2]
        exact Or.inl ⟨xISE, 2, 0, by simp, rfl, rfl⟩
      · have hnn : n' = n := (nI_eq (by omega) (by omega)).mp (e9.symm.trans h2)
        subst hnn
        have hin : inb (nI j) 6 = true := inb_of (by omega) (by decide)
        rw [if_neg (show ¬ gPk 0 4 = 0 by rw [e1]; decide), e2, goes_ok, xc0_l, xv2_s, if_neg n10, gb_t hin, gb_t hin, cl_nI (show j < 2 ^ 31 by omega), (e11 j (by omega)).1, e12 j (by omega)]
        simp only [letb]
        have hl := at_l (o := up2 o 0 0 0) (j := j) (gp := gp) (n := n') (p2 := p2) (len := fun z => (gGo 1 (3 * z + ax0 (o 9 z).toNatClampNeg)).toNatClampNeg) (by omega) e8 (fun z hz => (e11 z hz).2) (fun z w hz hzw hw6 hzn => by
          have hax : axi w 0 = ax0 w := axi_0 ⟨w, hw6⟩
          have hlt := ax0_lt w
          obtain ⟨v, v1, v2, v3, v4⟩ := h4 (3 * z + ax0 w) (by omega)
          have hzw' : o 9 z = nI w := hzw
          simp only [hzw', cl_nI (show w < 2 ^ 31 by omega)]
          rw [hax, v3, cl_nI (show v < 2 ^ 31 by omega)]
          exact v4) FU 0 (Nat.zero_le _) (by unfold FU; omega)
        have hl' : it3 (f_Mo_at_L44 (nI j) p2) FU (up2 o 0 0 0 0 13) 0 (up2 o 0 0 0) = f_Mo_at_X93 (nI j) p2 (nI (begs (fun z => (gGo 1 (3 * z + ax0 (o 9 z).toNatClampNeg)).toNatClampNeg) (o 9) gp j)) (nI j) (up2 o 0 0 0) := by
          rw [show up2 o 0 0 0 0 13 = nI gp from e8]
          exact hl
        rw [hl']
        unfold f_Mo_at_X93 f_Mo_at_J108
        rw [gb_t hin, gb_t hin, cl_nI (show j < 2 ^ 31 by omega)]
        simp only [letb]
        generalize hB : nI (begs (fun z => (gGo 1 (3 * z + ax0 (o 9 z).toNatClampNeg)).toNatClampNeg) (o 9) gp j) = B
        rcases hw with rfl | rfl
        · exact Or.inr ⟨o 9 j, up2 o 0 0 0, rfl, rfl, rfl, hI⟩
        · by_cases hq : o 9 j = -1
          · refine Or.inr ⟨-1, up2 o 0 0 0, ?_, ?_, rfl, hI⟩
            · rw [if_pos hq]; rfl
            · rw [if_neg (by decide), show up2 o 0 0 0 9 j = o 9 j from rfl, if_pos hq, hq]
          · refine Or.inr ⟨B, up2 o 0 0 0, ?_, ?_, rfl, hI⟩
            · rw [if_neg hq]; rfl
            · rw [if_neg (by decide), show up2 o 0 0 0 9 j = o 9 j from rfl, if_neg hq]
    · have hw1 : ¬ (¬ p2 < (-1) ∧ p2 ≤ 0) := by
        intro ⟨q1, q2⟩
        apply hw
        rw [i_lt, show (-1 : Int32).toInt = -1 from rfl] at q1
        rw [i_le, show (0 : Int32).toInt = 0 from rfl] at q2
        rw [i_eq, i_eq, show (-1 : Int32).toInt = -1 from rfl, show (0 : Int32).toInt = 0 from rfl]
        omega
      rw [if_neg (fun q => hw (Or.inl q)), if_neg (fun q => hw (Or.inr q)), wi_no hw1]
      exact Or.inl ⟨xIOE, 1, 0, by simp, rfl, rfl⟩
  · rw [rIndex_no hv, if_neg hv]
    exact Or.inl ⟨xIOE, 1, 0, by simp, rfl, rfl⟩
