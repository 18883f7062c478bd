/-- goods: n objects; sizes, grams, weak sides -/
def RG (g : St) (on : Int32) (osz ogr owk : Nat → Int32) : Prop := ∃ n : Nat, n ≤ 6 ∧ g 0 5 = nI n ∧ on = nI n ∧
  (∀ j, j < 3 * n → ∃ v : Nat, 1 ≤ v ∧ v ≤ 200 ∧ g 1 j = nI v ∧ osz j = nI v) ∧ (∀ j, j < n → ∃ v : Nat, 1 ≤ v ∧ v ≤ 100000 ∧ g 2 j = nI v ∧ ogr j = nI v) ∧
  (∀ j, j < 6 → ∃ b : Nat, b < 64 ∧ g 3 j = nI b ∧ ∀ s, s < 6 → owk (6 * j + s) = if b.testBit s then 1 else 0)
/-- foams -/
def RF (f : St) (orow oth opt ost ovl : Nat → Int32) : Prop := ∃ (rn : Nat → Nat) (pn : Nat → Nat) (th st vl : Nat → Nat),
  (∀ k, k < 4 → rn k ≤ 8 ∧ f 1 k = nI (rn k) ∧ orow k = nI (rn k)) ∧ (∀ a, a < 32 → pn a ≤ 6 ∧ f 3 a = nI (pn a) ∧ opt a = nI (pn a)) ∧
  (∀ a, a < 32 → th a ≤ 500 ∧ f 2 a = nI (th a) ∧ oth a = nI (th a)) ∧
  (∀ q, q < 192 → st q ≤ 10000 ∧ vl q ≤ 1000 ∧ f 4 q = nI (st q) ∧ ost q = nI (st q) ∧ f 5 q = nI (vl q) ∧ ovl q = nI (vl q)) ∧
  (∀ a i j, a < 32 → i < j → j < pn a → st (6 * a + i) < st (6 * a + j)) ∧ (∀ a i, a < 32 → i < pn a → 1 ≤ vl (6 * a + i))
/-- where the objects begin -/
def begs (len : Nat → Nat) (way : Nat → Int32) (gap : Nat) : Nat → Nat
  | 0 => gap
  | j + 1 => if way j = -1 then begs len way gap j else begs len way gap j + len j + gap
/-- which size stands along axis 0 -/
def ax0 (w : Nat) : Nat := [0, 1, 0, 2, 1, 2].getD w 0
/-- packing -/
def RP (g k : St) (opk ogap ol ow oh : Int32) (oways : Nat → Int32) : Prop := (k 0 4 = 0 ∧ opk = 0) ∨ (k 0 4 = 1 ∧ opk = 1 ∧ k 1 0 = ol ∧ k 1 1 = ow ∧ k 1 2 = oh ∧ (∃ a b d : Nat, a < 2000 ∧ b < 2000 ∧ d < 2000 ∧ ol = nI a ∧ ow = nI b ∧ oh = nI d) ∧
  ∃ gp n : Nat, gp ≤ 20 ∧ ogap = nI gp ∧ g 0 5 = nI n ∧ n ≤ 6 ∧ (∀ j, j < 6 → k 2 j = oways j ∧ (oways j = -1 ∨ ∃ w : Nat, w < 6 ∧ j < n ∧ oways j = nI w)) ∧
  (∀ j, j < 6 → k 3 j = if oways j = -1 then -1 else nI (begs (fun z => (g 1 (3 * z + ax0 (oways z).toNatClampNeg)).toNatClampNeg) oways gp j)))
/-- the crates that are there -/
def RS (k : St) (oc : Int32) (oin otk : Nat → Int32) : Prop := ∃ n : Nat, n ≤ 10 ∧ k 0 4 = nI n ∧ oc = nI n ∧
  (∀ j, j < n → (∃ v : Nat, 1 ≤ v ∧ v ≤ 2000 ∧ k 1 j = nI v ∧ oin (3 * j) = nI v) ∧ (∃ v : Nat, 1 ≤ v ∧ v ≤ 2000 ∧ k 2 j = nI v ∧ oin (3 * j + 1) = nI v) ∧ (∃ v : Nat, 1 ≤ v ∧ v ≤ 2000 ∧ k 3 j = nI v ∧ oin (3 * j + 2) = nI v)) ∧
  (∀ j, j < 10 → k 4 j = otk j ∧ (otk j = 0 ∨ otk j = 1)) ∧ (∀ j, n ≤ j → j < 10 → otk j = 0)
/-- the climate -/
def RA (a : St) (oh : Int32) (oin : Nat → Int32) (olag : Int32) : Prop := ∃ n lg : Nat, n ≤ 200 ∧ a 0 1 = nI n ∧ oh = nI n ∧ 1 ≤ lg ∧ lg ≤ 100 ∧ a 0 2 = nI lg ∧ olag = nI lg ∧
  (∀ j, j < n → a 1 j = oin j ∧ -60000 ≤ (oin j).toInt ∧ (oin j).toInt ≤ 60000)
/-- shocks -/
def RH (h : St) (opk oln olim osh otd : Int32) : Prop := h 0 2 = osh ∧ h 0 3 = otd ∧ ((olim = 0 ∧ h 0 0 = 10000 ∧ h 0 1 = 10000) ∨ (olim = 1 ∧ h 0 0 = opk ∧ h 0 1 = oln ∧ ∃ a b : Nat, 1 ≤ a ∧ a ≤ 10000 ∧ 1 ≤ b ∧ b ≤ 10000 ∧ opk = nI a ∧ oln = nI b))
/-- the route -/
def RJ (j : St) (ol : Int32) (od : Nat → Int32) : Prop := ∃ n : Nat, n ≤ 50 ∧ j 0 1 = nI n ∧ ol = nI n ∧ ∀ i, i < n → j 1 i = od i
def INV (gGo gFo gPk : St) (qPk : Int64) (gSk gAi gSh gJo o : St) : Prop := RG gGo (o 0 1) (o 1) (o 2) (o 3) ∧ RF gFo (o 4) (o 5) (o 6) (o 7) (o 8) ∧ RP gGo gPk (o 0 10) (o 0 13) (o 0 14) (o 0 15) (o 0 16) (o 9) ∧ RS gSk (o 0 18) (o 12) (o 13) ∧ RA gAi (o 0 21) (o 14) (o 0 23) ∧ RH gSh (o 0 24) (o 0 25) (o 0 26) (o 0 27) (o 0 28) ∧ RJ gJo (o 0 29) (o 15)
theorem INV.thr {gGo gFo gPk : St} {qPk : Int64} {gSk gAi gSh gJo o : St} (h : INV gGo gFo gPk qPk gSk gAi gSh gJo o) (k : Int32) : INV gGo gFo gPk qPk gSk gAi gSh gJo (up2 o 0 0 k) := h
theorem lit_nI (n : Nat) : (OfNat.ofNat n : Int32) = nI n := rfl
-- lag
theorem op_lag {gGo gFo gPk : St} {qPk : Int64} {gSk gAi gSh gJo o : St} (h : INV gGo gFo gPk qPk gSk gAi gSh gJo o) (p1 : Int32) : AGR [(xIAE, 1)] (f_Cc_lag gGo gFo gPk qPk gSk gAi gSh gJo p1) (f_Mo_lag o p1) o (fun x o' => INV gGo gFo gPk qPk gSk x gSh gJo o') := by
  unfold f_Cc_lag f_Ai_setLag f_Mo_lag
  by_cases hv : ¬ p1 < 1 ∧ p1 ≤ 100
  · rw [rRange_ok hv.1 hv.2, wi_ok hv.1 hv.2]
    obtain ⟨hG, hF, hP, hS, ⟨n, lg, h1, h2, h3, h4, h5, h6, h7, h8⟩, hH, hJ⟩ := h
    obtain ⟨j, hj1, hj2, rfl⟩ := i_range (a := 1) (b := 100) (by decide) hv.1 hv.2 (by decide)
    refine Or.inr ⟨gAi 0 2, up2 gAi 0 2 (nI j), up2 (up2 o 0 0 0) 0 23 (nI j), rfl, ?_, rfl, hG, hF, hP, hS, ⟨n, j, h1, h2, h3, hj1, hj2, rfl, rfl, h8⟩, hH, hJ⟩
    rw [h6, ← h7]
    rfl
  · rw [rRange_no hv, wi_no hv]
    exact Or.inl ⟨xIAE, 1, 0, List.mem_singleton.mpr rfl, rfl, rfl⟩
