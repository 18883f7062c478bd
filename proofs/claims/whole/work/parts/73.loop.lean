/-! THE CLAIM OUT OF ONE WALK OF THE LAW'S BODY. Your part is whole_start (and what it stands on); all else here is the same for every law, but numbers. -/
def R_law : String := "CrateCushionsLaw"
def lw_P (b : Addr) (xs : List Int32) (args : Array Value) (s : State) : Prop := args = #[.ref b] ∧ s.IntsAt b xs ∧ xs.length ≤ 2560 ∧ (Jvm.Cond.and given_1 narrow_1).before args s = true
def lw_Q (_ : Array Value) (s : State) (o : Outcome) (t : State) : Prop := o = .returned (some (.int 1)) ∧ Framed s o t [] 1079 10123
def lw_Z (below : List Frame) (a : Array Value) (s : State) : State → Prop := fun t => ∃ o, t.status = .running ∧ Ended t below o ∧ lw_Q a s o t
/-- the law's own end, with 1 on the stack, nothing written that was there before, its room as the claim has it -/
theorem lw_ret {p : Program} {l : Launch} {e : Env} {s : State} {m : MethodId} {below : List Frame} {meth : Method} {c : Code} {b : Nat} (hx : p.tables.exec = Jvm.exec) (hb : c.code = code) (hr : meth.sig.returnType = ret) (hlocks : meth.locks = false) {pc : Nat} {H : Heap} {ls : Array Slot} (hdg : decode code pc = .ok (.ireturn, 1)) : W p l e room_1 s m #[Value.ref b] below meth c H [] 1079 10123 (lw_Z below #[Value.ref b] s) (F0 m pc ls [.int 1]) := by
  intro T hT X
  obtain ⟨fs, hret, hrun, hended, hW, hframe⟩ := X.leave (v := some (.int 1)) (hlocks := hlocks) (fun h => by rw [hr] at h; cases h)
  have hmeth' : T.vm.method? m = some meth := X.method'
  refine ⟨T.setFrames fs, ?_, .returned (some (.int 1)), hrun, hended, rfl, ⟨_, rfl⟩, hW, hframe⟩
  jvm_step X.here [X.here.top, hx, hb, hdg, hmeth', hr, ret, narrow_b1]
  (try refine ⟨rfl, ?_⟩); (try refine ⟨rfl, ?_⟩)
  first | (intro acts; rw [hret _ acts rfl rfl rfl]) | rw [hret _ _ rfl rfl rfl]
  exact Steps.refl _
/-- what holds at the law's entry: the machine, the code, the tables' words (any of lw_tbl by 'hts w (by decide +kernel)'), the script of L ints xs at the cell b, what the Statement gives of the start (any of its parts by flat_of_before) -/
def lw_At (p : Program) (s : State) (m : MethodId) (meth : Method) (c : Code) (b L : Nat) (xs : Nat → Int32) : Prop :=
  p.tables.exec = Jvm.exec ∧ c.code = code ∧ meth.sig.returnType = ret ∧ c.maxLocals = 7 ∧ s.vm.findClass R_law = some m.cls ∧ (∀ w ∈ lw_tbl, w.before #[Value.ref b] s = true) ∧ va_X b L xs s s.heap ∧ b < s.heap.size ∧ meth.locks = false ∧ (Jvm.Cond.and given_1 narrow_1).before #[Value.ref b] s = true
theorem law_go {L j : Nat} (hL : L ≤ 2560) (h : ¬ Int32.ofNat L - 5 < nI (5 * j)) : j ≤ 512 → 5 * j + 5 ≤ L := by
  intro hj
  by_cases h5 : 5 ≤ L
  · have e : Int32.ofNat L - 5 = nI (L - 5) := nIsub (a := L) (b := 5) h5
    rw [e, nI_ltI (by omega) (by omega)] at h
    omega
  · exfalso
    apply h
    have hp : (nI (5 * j)).toInt = (5 * j : Nat) := nI_toInt (by omega)
    rw [i_lt, hp]
    have hn : (Int32.ofNat L - 5).toInt < 0 := by
      rcases (show L = 0 ∨ L = 1 ∨ L = 2 ∨ L = 3 ∨ L = 4 by omega) with rfl | rfl | rfl | rfl | rfl <;> decide
    omega
set_option maxRecDepth 100000 in
set_option maxHeartbeats 4000000 in
theorem law_loop {p : Program} {l : Launch} {e : Env} {s : State} {m : MethodId} {below : List Frame} {meth : Method} {c : Code} (hltr : l.stackTraces = false) {D : va_G} {cI cZ cJ : ClassId} {A : Nat → Prop} {xCc : Nat} {xGo : Nat → Nat} {xFo : Nat → Nat} {xPk : Nat → Nat} {xSk : Nat → Nat} {xAi : Nat → Nat} {xSh : Nat → Nat} {xJo : Nat → Nat} {xo : Nat} {xMo : Nat → Nat} {b L : Nat} {xs : Nat → Int32} (hL : L ≤ 2560) (C0 : CX p s m #[Value.ref b] c R_La code 7 D (TYS cI cZ cJ) A) (hr : meth.sig.returnType = ret) (hlk : meth.locks = false) (hX : va_X b L xs s s.heap) (hbl : b < s.heap.size) (hbA : ¬ A b) (hAn : ∀ q, A q → s.heap.size ≤ q) : ∀ (n j : Nat), j + n = 512 → ∀ (gGo : St) (gFo : St) (gPk : St) (qPk : Int64) (gSk : St) (gAi : St) (gSh : St) (gJo : St) (q : Nat → Int64) (o : St) (H : Heap) (locs : List Loc) (ls : Array Slot), INV gGo gFo gPk qPk gSk gAi gSh gJo o → va_P D vwCl ((wCc xCc cI cZ xGo xFo xPk xSk xAi xSh xJo gGo gFo gPk qPk gSk gAi gSh gJo ++ ([(xo, .inl (cJ, 1, .inr (.inl q)))] : va_W)) ++ wMo xMo cI cZ o) H → va_D A ((wCc xCc cI cZ xGo xFo xPk xSk xAi xSh xJo gGo gFo gPk qPk gSk gAi gSh gJo ++ ([(xo, .inl (cJ, 1, .inr (.inl q)))] : va_W)) ++ wMo xMo cI cZ o) → va_S A s.heap H locs → lv_has ls 7 [(4, .int (nI (5 * j))), (3, .ref xo), (2, .ref (xMo 0)), (1, .ref xCc), (0, .ref b)] → W p l e room_1 s m #[Value.ref b] below meth c H locs (45 + j) (1871 + 6 * j) (lw_Z below #[Value.ref b] s) (F0 m 23 ls []) := by
  intro n
  induction n with
  | zero =>
    intro j hj gGo gFo gPk qPk gSk gAi gSh gJo q o H locs ls hI hP hD hS hl
    obtain ⟨hx, hb, -, hown, hts, hK, hE, -⟩ := id C0
    refine lv_iload hx hb d_law_23 (lv_at hl 0 rfl) ?_
    refine lv_aload_n hx hb d_law_25 rfl (lv_at hl 4 rfl) ?_
    refine va_slen hx hb hX hbl hbA hS d_law_26 ?_
    refine lv_iconst (v := 5) hx hb d_law_27 (by decide) ?_
    refine lv_isub hx hb d_law_28 ?_
    refine lv_icmp_gt (tgt := 1635) hx hb d_law_29 (by decide) (fun _ => ?_) (fun hgt => ?_)
    · refine lv_iconst (v := 1) hx hb d_law_1635 (by decide) ?_
      refine va_forget (fun z hz => hAn _ (hS.2.2 z hz)) ?_
      refine W.widen (k := 1079) (n := 10123) (by omega) (by omega) ?_
      exact lw_ret hx hb hr hlk d_law_1636
    · exact absurd (law_go (j := j) hL hgt (by omega)) (by omega)
  | succ n ih =>
    intro j hj gGo gFo gPk qPk gSk gAi gSh gJo q o H locs ls hI hP hD hS hl
    obtain ⟨hx, hb, -, hown, hts, hK, hE, -⟩ := id C0
    refine lv_iload hx hb d_law_23 (lv_at hl 0 rfl) ?_
    refine lv_aload_n hx hb d_law_25 rfl (lv_at hl 4 rfl) ?_
    refine va_slen hx hb hX hbl hbA hS d_law_26 ?_
    refine lv_iconst (v := 5) hx hb d_law_27 (by decide) ?_
    refine lv_isub hx hb d_law_28 ?_
    refine lv_icmp_gt (tgt := 1635) hx hb d_law_29 (by decide) (fun _ => ?_) (fun hgt => ?_)
    · refine lv_iconst (v := 1) hx hb d_law_1635 (by decide) ?_
      refine va_forget (fun z hz => hAn _ (hS.2.2 z hz)) ?_
      refine W.widen (k := 1079) (n := 10123) (by omega) (by omega) ?_
      exact lw_ret hx hb hr hlk d_law_1636
    · have hgo := law_go (j := j) hL hgt (by omega)
      have h0 : vp_in (nI (5 * j)) L := inb_in (inb_of (show 5 * j < L by omega) (by omega))
      have h1 : vp_in (nI (5 * j) + 1) L := by rw [show nI (5 * j) + (1 : Int32) = nI (5 * j + 1) from nI_add (5 * j) 1]; exact inb_in (inb_of (show 5 * j + 1 < L by omega) (by omega))
      have h2 : vp_in (nI (5 * j) + 2) L := by rw [show nI (5 * j) + (2 : Int32) = nI (5 * j + 2) from nI_add (5 * j) 2]; exact inb_in (inb_of (show 5 * j + 2 < L by omega) (by omega))
      have h3 : vp_in (nI (5 * j) + 3) L := by rw [show nI (5 * j) + (3 : Int32) = nI (5 * j + 3) from nI_add (5 * j) 3]; exact inb_in (inb_of (show 5 * j + 3 < L by omega) (by omega))
      have h4 : vp_in (nI (5 * j) + 4) L := by rw [show nI (5 * j) + (4 : Int32) = nI (5 * j + 4) from nI_add (5 * j) 4]; exact inb_in (inb_of (show 5 * j + 4 < L by omega) (by omega))
      have next : ∀ (gGo1 : St) (gFo1 : St) (gPk1 : St) (qPk1 : Int64) (gSk1 : St) (gAi1 : St) (gSh1 : St) (gJo1 : St) (q1 : Nat → Int64) (o1 : St) (H1 : Heap) (locs1 : List Loc) (ls1 : Array Slot), INV gGo1 gFo1 gPk1 qPk1 gSk1 gAi1 gSh1 gJo1 o1 → va_P D vwCl ((wCc xCc cI cZ xGo xFo xPk xSk xAi xSh xJo gGo1 gFo1 gPk1 qPk1 gSk1 gAi1 gSh1 gJo1 ++ ([(xo, .inl (cJ, 1, .inr (.inl q1)))] : va_W)) ++ wMo xMo cI cZ o1) H1 → va_D A ((wCc xCc cI cZ xGo xFo xPk xSk xAi xSh xJo gGo1 gFo1 gPk1 qPk1 gSk1 gAi1 gSh1 gJo1 ++ ([(xo, .inl (cJ, 1, .inr (.inl q1)))] : va_W)) ++ wMo xMo cI cZ o1) → va_S A s.heap H1 locs1 → lv_has ls1 7 [(4, .int (nI (5 * j))), (3, .ref xo), (2, .ref (xMo 0)), (1, .ref xCc), (0, .ref b)] → W p l e room_1 s m #[Value.ref b] below meth c H1 locs1 (45 + j + 1) (1871 + 6 * j + 6) (lw_Z below #[Value.ref b] s) (F0 m 1629 ls1 []) := by
        intro gGo1 gFo1 gPk1 qPk1 gSk1 gAi1 gSh1 gJo1 q1 o1 H1 locs1 ls1 hI1 hP1 hD1 hS1 hl1
        refine lv_iinc (v := nI (5 * (j + 1))) (lv' := [(4, .int (nI (5 * (j + 1)))), (3, .ref xo), (2, .ref (xMo 0)), (1, .ref xCc), (0, .ref b)]) hx hb d_law_1629 hl1 (k := 0) rfl (nI_add (5 * j) 5) (by decide) rfl (fun ls hl => ?_)
        refine lv_goto (tgt := 23) hx hb d_law_1632 (by decide) ?_
        exact ih (j + 1) (by omega) gGo1 gFo1 gPk1 qPk1 gSk1 gAi1 gSh1 gJo1 q1 o1 H1 locs1 ls hI1 hP1 hD1 hS1 hl
      have hcs : 45 + j + 1 ≤ room_1.cells ∧ 1871 + 6 * j + 6 ≤ room_1.slots := ⟨show 45 + j + 1 ≤ 1079 by omega, show 1871 + 6 * j + 6 ≤ 10123 by omega⟩
      refine lv_aload_n hx hb d_law_32 rfl (lv_at hl 4 rfl) ?_
      refine lv_iload hx hb d_law_33 (lv_at hl 0 rfl) ?_
      refine va_sld hx hb hX hbl hbA hS h0 d_law_35 ?_
      refine lv_bipush (v := 31) hx hb d_law_36 (by decide) ?_
      refine lv_iand hx hb d_law_38 ?_
      generalize xs (nI (5 * j)).toNatClampNeg &&& 31 = w
      by_cases c0 : w = 0
      · refine lv_tableIn (off := 101) (tgt := 140) hx hb d_law_39 (by rw [c0]; decide) (by rw [c0]; decide) (by rw [c0]; rfl) (by decide) ?_
        exact lw_object hltr C0 hX hbl hbA h1 h2 h3 h4 hI hP hD hS hl hcs next
      by_cases c1 : w = 1
      · refine lv_tableIn (off := 193) (tgt := 232) hx hb d_law_39 (by rw [c1]; decide) (by rw [c1]; decide) (by rw [c1]; rfl) (by decide) ?_
        exact lw_weak hltr C0 hX hbl hbA h1 h2 h3 h4 hI hP hD hS hl hcs next
      by_cases c2 : w = 2
      · refine lv_tableIn (off := 296) (tgt := 335) hx hb d_law_39 (by rw [c2]; decide) (by rw [c2]; decide) (by rw [c2]; rfl) (by decide) ?_
        exact lw_foam hltr C0 hX hbl hbA h1 h2 h3 h4 hI hP hD hS hl hcs next
      by_cases c3 : w = 3
      · refine lv_tableIn (off := 364) (tgt := 403) hx hb d_law_39 (by rw [c3]; decide) (by rw [c3]; decide) (by rw [c3]; rfl) (by decide) ?_
        exact lw_point hltr C0 hX hbl hbA h1 h2 h3 h4 hI hP hD hS hl hcs next
      by_cases c4 : w = 4
      · refine lv_tableIn (off := 456) (tgt := 495) hx hb d_law_39 (by rw [c4]; decide) (by rw [c4]; decide) (by rw [c4]; rfl) (by decide) ?_
        exact lw_value hltr C0 hX hbl hbA h1 h2 h3 h4 hI hP hD hS hl hcs next
      by_cases c5 : w = 5
      · refine lv_tableIn (off := 536) (tgt := 575) hx hb d_law_39 (by rw [c5]; decide) (by rw [c5]; decide) (by rw [c5]; rfl) (by decide) ?_
        exact lw_thickness hltr C0 hX hbl hbA h1 h2 h3 h4 hI hP hD hS hl hcs next
      by_cases c6 : w = 6
      · refine lv_tableIn (off := 616) (tgt := 655) hx hb d_law_39 (by rw [c6]; decide) (by rw [c6]; decide) (by rw [c6]; rfl) (by decide) ?_
        exact lw_pack hltr C0 hX hbl hbA h1 h2 h3 h4 hI hP hD hS hl hcs next
      by_cases c7 : w = 7
      · refine lv_tableIn (off := 684) (tgt := 723) hx hb d_law_39 (by rw [c7]; decide) (by rw [c7]; decide) (by rw [c7]; rfl) (by decide) ?_
        exact lw_size hltr C0 hX hbl hbA h1 h2 h3 h4 hI hP hD hS hl hcs next
      by_cases c8 : w = 8
      · refine lv_tableIn (off := 740) (tgt := 779) hx hb d_law_39 (by rw [c8]; decide) (by rw [c8]; decide) (by rw [c8]; rfl) (by decide) ?_
        exact lw_at hltr C0 hX hbl hbA h1 h2 h3 h4 hI hP hD hS hl hcs next
      by_cases c9 : w = 9
      · refine lv_tableIn (off := 808) (tgt := 847) hx hb d_law_39 (by rw [c9]; decide) (by rw [c9]; decide) (by rw [c9]; rfl) (by decide) ?_
        exact lw_crate hltr C0 hX hbl hbA h1 h2 h3 h4 hI hP hD hS hl hcs next
      by_cases c10 : w = 10
      · refine lv_tableIn (off := 888) (tgt := 927) hx hb d_law_39 (by rw [c10]; decide) (by rw [c10]; decide) (by rw [c10]; rfl) (by decide) ?_
        exact lw_match hltr C0 hX hbl hbA h1 h2 h3 h4 hI hP hD hS hl hcs next
      by_cases c11 : w = 11
      · refine lv_tableIn (off := 932) (tgt := 971) hx hb d_law_39 (by rw [c11]; decide) (by rw [c11]; decide) (by rw [c11]; rfl) (by decide) ?_
        exact lw_free hltr C0 hX hbl hbA h1 h2 h3 h4 hI hP hD hS hl hcs next
      by_cases c12 : w = 12
      · refine lv_tableIn (off := 995) (tgt := 1034) hx hb d_law_39 (by rw [c12]; decide) (by rw [c12]; decide) (by rw [c12]; rfl) (by decide) ?_
        exact lw_split hltr C0 hX hbl hbA h1 h2 h3 h4 hI hP hD hS hl hcs next
      by_cases c13 : w = 13
      · refine lv_tableIn (off := 1051) (tgt := 1090) hx hb d_law_39 (by rw [c13]; decide) (by rw [c13]; decide) (by rw [c13]; rfl) (by decide) ?_
        exact lw_lag hltr C0 hX hbl hbA h1 h2 h3 h4 hI hP hD hS hl hcs next
      by_cases c14 : w = 14
      · refine lv_tableIn (off := 1107) (tgt := 1146) hx hb d_law_39 (by rw [c14]; decide) (by rw [c14]; decide) (by rw [c14]; rfl) (by decide) ?_
        exact lw_climate hltr C0 hX hbl hbA h1 h2 h3 h4 hI hP hD hS hl hcs next
      by_cases c15 : w = 15
      · refine lv_tableIn (off := 1163) (tgt := 1202) hx hb d_law_39 (by rw [c15]; decide) (by rw [c15]; decide) (by rw [c15]; rfl) (by decide) ?_
        exact lw_inside hltr C0 hX hbl hbA h1 h2 h3 h4 hI hP hD hS hl hcs next
      by_cases c16 : w = 16
      · refine lv_tableIn (off := 1219) (tgt := 1258) hx hb d_law_39 (by rw [c16]; decide) (by rw [c16]; decide) (by rw [c16]; rfl) (by decide) ?_
        exact lw_steady hltr C0 hX hbl hbA h1 h2 h3 h4 hI hP hD hS hl hcs next
      by_cases c17 : w = 17
      · refine lv_tableIn (off := 1287) (tgt := 1326) hx hb d_law_39 (by rw [c17]; decide) (by rw [c17]; decide) (by rw [c17]; rfl) (by decide) ?_
        exact lw_limit hltr C0 hX hbl hbA h1 h2 h3 h4 hI hP hD hS hl hcs next
      by_cases c18 : w = 18
      · refine lv_tableIn (off := 1335) (tgt := 1374) hx hb d_law_39 (by rw [c18]; decide) (by rw [c18]; decide) (by rw [c18]; rfl) (by decide) ?_
        exact lw_shock hltr C0 hX hbl hbA h1 h2 h3 h4 hI hP hD hS hl hcs next
      by_cases c19 : w = 19
      · refine lv_tableIn (off := 1410) (tgt := 1449) hx hb d_law_39 (by rw [c19]; decide) (by rw [c19]; decide) (by rw [c19]; rfl) (by decide) ?_
        exact lw_route hltr C0 hX hbl hbA h1 h2 h3 h4 hI hP hD hS hl hcs next
      by_cases c20 : w = 20
      · refine lv_tableIn (off := 1478) (tgt := 1517) hx hb d_law_39 (by rw [c20]; decide) (by rw [c20]; decide) (by rw [c20]; rfl) (by decide) ?_
        exact lw_drop hltr C0 hX hbl hbA h1 h2 h3 h4 hI hP hD hS hl hcs next
      by_cases c21 : w = 21
      · refine lv_tableIn (off := 1534) (tgt := 1573) hx hb d_law_39 (by rw [c21]; decide) (by rw [c21]; decide) (by rw [c21]; rfl) (by decide) ?_
        exact lw_count hltr C0 hX hbl hbA h1 h2 h3 h4 hI hP hD hS hl hcs next
      have t0 := lv_neT c0 (show (0 : Int32).toInt = 0 by decide)
      have t1 := lv_neT c1 (show (1 : Int32).toInt = 1 by decide)
      have t2 := lv_neT c2 (show (2 : Int32).toInt = 2 by decide)
      have t3 := lv_neT c3 (show (3 : Int32).toInt = 3 by decide)
      have t4 := lv_neT c4 (show (4 : Int32).toInt = 4 by decide)
      have t5 := lv_neT c5 (show (5 : Int32).toInt = 5 by decide)
      have t6 := lv_neT c6 (show (6 : Int32).toInt = 6 by decide)
      have t7 := lv_neT c7 (show (7 : Int32).toInt = 7 by decide)
      have t8 := lv_neT c8 (show (8 : Int32).toInt = 8 by decide)
      have t9 := lv_neT c9 (show (9 : Int32).toInt = 9 by decide)
      have t10 := lv_neT c10 (show (10 : Int32).toInt = 10 by decide)
      have t11 := lv_neT c11 (show (11 : Int32).toInt = 11 by decide)
      have t12 := lv_neT c12 (show (12 : Int32).toInt = 12 by decide)
      have t13 := lv_neT c13 (show (13 : Int32).toInt = 13 by decide)
      have t14 := lv_neT c14 (show (14 : Int32).toInt = 14 by decide)
      have t15 := lv_neT c15 (show (15 : Int32).toInt = 15 by decide)
      have t16 := lv_neT c16 (show (16 : Int32).toInt = 16 by decide)
      have t17 := lv_neT c17 (show (17 : Int32).toInt = 17 by decide)
      have t18 := lv_neT c18 (show (18 : Int32).toInt = 18 by decide)
      have t19 := lv_neT c19 (show (19 : Int32).toInt = 19 by decide)
      have t20 := lv_neT c20 (show (20 : Int32).toInt = 20 by decide)
      have t21 := lv_neT c21 (show (21 : Int32).toInt = 21 by decide)
      refine lv_tableOut (tgt := 1629) hx hb d_law_39 (by omega) (by decide) ?_
      refine W.widen (k := 45 + j + 1) (n := 1871 + 6 * j + 6) (by omega) (by omega) ?_
      exact next gGo gFo gPk qPk gSk gAi gSh gJo q o H locs ls hI hP hD hS hl
