theorem ex_ref {args : Array Value} {s : State} {t : Term} {cls : String} (h : (Cond.exactly t cls).before args s = true) : ∃ a, t.eval args s none [] s = some (.ref a) := by
  obtain ⟨a, c, cell, k, q1, -⟩ := Cond.exactly_spec (args := args) (first := s) (o := none) (s := s) (idx := []) h
  exact ⟨a, q1⟩
set_option maxRecDepth 100000 in
set_option maxHeartbeats 4000000 in
theorem ev_NF {args : Array Value} {s : State} (hts : ∀ w ∈ lw_tbl, w.before args s = true) : ∀ q ∈ NF, va_Nw (.fieldLinkNest q.1 q.2.1 q.2.2.1 q.2.2.2.1 q.2.2.2.2.1 q.2.2.2.2.2) s := List.forall_mem_cons.mpr ⟨va_Nw.of rfl (hts _ (List.mem_of_getElem? (i := 56) rfl)), List.forall_mem_cons.mpr ⟨va_Nw.of rfl (hts _ (List.mem_of_getElem? (i := 62) rfl)), List.forall_mem_cons.mpr ⟨va_Nw.of rfl (hts _ (List.mem_of_getElem? (i := 63) rfl)), List.forall_mem_cons.mpr ⟨va_Nw.of rfl (hts _ (List.mem_of_getElem? (i := 142) rfl)), List.forall_mem_cons.mpr ⟨va_Nw.of rfl (hts _ (List.mem_of_getElem? (i := 163) rfl)), List.forall_mem_cons.mpr ⟨va_Nw.of rfl (hts _ (List.mem_of_getElem? (i := 181) rfl)), List.forall_mem_cons.mpr ⟨va_Nw.of rfl (hts _ (List.mem_of_getElem? (i := 183) rfl)), List.forall_mem_cons.mpr ⟨va_Nw.of rfl (hts _ (List.mem_of_getElem? (i := 464) rfl)), fun _ h => absurd h List.not_mem_nil⟩⟩⟩⟩⟩⟩⟩⟩
set_option maxRecDepth 100000 in
set_option maxHeartbeats 4000000 in
theorem ev_NM {args : Array Value} {s : State} (hts : ∀ w ∈ lw_tbl, w.before args s = true) : ∀ q ∈ NM, va_Nw (.methodLinkNest q.1 q.2.1 q.2.2.1 q.2.2.2) s := List.forall_mem_cons.mpr ⟨va_Nw.of rfl (hts _ (List.mem_of_getElem? (i := 241) rfl)), List.forall_mem_cons.mpr ⟨va_Nw.of rfl (hts _ (List.mem_of_getElem? (i := 312) rfl)), List.forall_mem_cons.mpr ⟨va_Nw.of rfl (hts _ (List.mem_of_getElem? (i := 344) rfl)), List.forall_mem_cons.mpr ⟨va_Nw.of rfl (hts _ (List.mem_of_getElem? (i := 374) rfl)), List.forall_mem_cons.mpr ⟨va_Nw.of rfl (hts _ (List.mem_of_getElem? (i := 375) rfl)), List.forall_mem_cons.mpr ⟨va_Nw.of rfl (hts _ (List.mem_of_getElem? (i := 376) rfl)), List.forall_mem_cons.mpr ⟨va_Nw.of rfl (hts _ (List.mem_of_getElem? (i := 439) rfl)), List.forall_mem_cons.mpr ⟨va_Nw.of rfl (hts _ (List.mem_of_getElem? (i := 503) rfl)), List.forall_mem_cons.mpr ⟨va_Nw.of rfl (hts _ (List.mem_of_getElem? (i := 535) rfl)), List.forall_mem_cons.mpr ⟨va_Nw.of rfl (hts _ (List.mem_of_getElem? (i := 536) rfl)), List.forall_mem_cons.mpr ⟨va_Nw.of rfl (hts _ (List.mem_of_getElem? (i := 564) rfl)), List.forall_mem_cons.mpr ⟨va_Nw.of rfl (hts _ (List.mem_of_getElem? (i := 594) rfl)), List.forall_mem_cons.mpr ⟨va_Nw.of rfl (hts _ (List.mem_of_getElem? (i := 606) rfl)), List.forall_mem_cons.mpr ⟨va_Nw.of rfl (hts _ (List.mem_of_getElem? (i := 622) rfl)), List.forall_mem_cons.mpr ⟨va_Nw.of rfl (hts _ (List.mem_of_getElem? (i := 648) rfl)), List.forall_mem_cons.mpr ⟨va_Nw.of rfl (hts _ (List.mem_of_getElem? (i := 672) rfl)), List.forall_mem_cons.mpr ⟨va_Nw.of rfl (hts _ (List.mem_of_getElem? (i := 685) rfl)), fun _ h => absurd h List.not_mem_nil⟩⟩⟩⟩⟩⟩⟩⟩⟩⟩⟩⟩⟩⟩⟩⟩⟩
set_option maxRecDepth 100000 in
set_option maxHeartbeats 4000000 in
theorem ev_NCa {args : Array Value} {s : State} (hts : ∀ w ∈ lw_tbl, w.before args s = true) : ∀ q ∈ NCa, va_Nw (.castable q q) s := List.forall_mem_cons.mpr ⟨va_Nw.of rfl (hts _ (List.mem_of_getElem? (i := 246) rfl)), List.forall_mem_cons.mpr ⟨va_Nw.of rfl (hts _ (List.mem_of_getElem? (i := 317) rfl)), List.forall_mem_cons.mpr ⟨va_Nw.of rfl (hts _ (List.mem_of_getElem? (i := 349) rfl)), fun _ h => absurd h List.not_mem_nil⟩⟩⟩
set_option maxRecDepth 100000 in
set_option maxHeartbeats 4000000 in
theorem ev_NDe {args : Array Value} {s : State} (hts : ∀ w ∈ lw_tbl, w.before args s = true) : ∀ q ∈ NDe, va_Nw (.declares q) s := List.forall_mem_cons.mpr ⟨va_Nw.of rfl (hts _ (List.mem_of_getElem? (i := 248) rfl)), List.forall_mem_cons.mpr ⟨va_Nw.of rfl (hts _ (List.mem_of_getElem? (i := 250) rfl)), List.forall_mem_cons.mpr ⟨va_Nw.of rfl (hts _ (List.mem_of_getElem? (i := 252) rfl)), fun _ h => absurd h List.not_mem_nil⟩⟩⟩
set_option maxRecDepth 100000 in
set_option maxHeartbeats 4000000 in
theorem ev_NNc {args : Array Value} {s : State} (hgv : (Jvm.Cond.and given_1 narrow_1).before args s = true) : ∀ q ∈ NNc, va_Nc q.1 q.2 s := by
  have hs := flat_of_before _ hgv
  exact List.forall_mem_cons.mpr ⟨va_Nc.of (hs (Cond.not (.castable "java/lang/IllegalStateException" "java/lang/IllegalArgumentException")) (by decide +kernel)), List.forall_mem_cons.mpr ⟨va_Nc.of (hs (Cond.not (.castable "java/lang/IllegalStateException" "java/lang/IndexOutOfBoundsException")) (by decide +kernel)), List.forall_mem_cons.mpr ⟨va_Nc.of (hs (Cond.not (.castable "java/lang/IllegalArgumentException" "java/lang/IllegalStateException")) (by decide +kernel)), List.forall_mem_cons.mpr ⟨va_Nc.of (hs (Cond.not (.castable "java/lang/IllegalArgumentException" "java/lang/IndexOutOfBoundsException")) (by decide +kernel)), List.forall_mem_cons.mpr ⟨va_Nc.of (hs (Cond.not (.castable "java/lang/IndexOutOfBoundsException" "java/lang/IllegalStateException")) (by decide +kernel)), List.forall_mem_cons.mpr ⟨va_Nc.of (hs (Cond.not (.castable "java/lang/IndexOutOfBoundsException" "java/lang/IllegalArgumentException")) (by decide +kernel)), fun _ h => absurd h List.not_mem_nil⟩⟩⟩⟩⟩⟩
set_option maxRecDepth 100000 in
set_option maxHeartbeats 4000000 in
theorem ev_SW {args : Array Value} {s : State} (hts : ∀ w ∈ lw_tbl, w.before args s = true) (hgv : (Jvm.Cond.and given_1 narrow_1).before args s = true) : ∀ q ∈ SW, ∃ a, vk_R q.1 q.2.1 q.2.2 a s := by
  have hs := flat_of_before _ hgv
  exact List.forall_mem_cons.mpr ⟨(let ⟨a, h9⟩ := ex_ref (hs (Cond.exactly (.string "CrateCushions" 163) "java/lang/String") (by decide +kernel)); ⟨a, vk_R.of (hts _ (List.mem_of_getElem? (i := 285) rfl)) h9⟩), List.forall_mem_cons.mpr ⟨(let ⟨a, h9⟩ := ex_ref (hs (Cond.exactly (.string "CrateCushions" 158) "java/lang/String") (by decide +kernel)); ⟨a, vk_R.of (hts _ (List.mem_of_getElem? (i := 324) rfl)) h9⟩), List.forall_mem_cons.mpr ⟨(let ⟨a, h9⟩ := ex_ref (hs (Cond.exactly (.string "CrateCushions" 154) "java/lang/String") (by decide +kernel)); ⟨a, vk_R.of (hts _ (List.mem_of_getElem? (i := 356) rfl)) h9⟩), List.forall_mem_cons.mpr ⟨(let ⟨a, h9⟩ := ex_ref (hs (Cond.exactly (.string "CrateCushions$Packing" 36) "java/lang/String") (by decide +kernel)); ⟨a, vk_R.of (hts _ (List.mem_of_getElem? (i := 434) rfl)) h9⟩), List.forall_mem_cons.mpr ⟨(let ⟨a, h9⟩ := ex_ref (hs (Cond.exactly (.string "CrateCushions$Packing" 43) "java/lang/String") (by decide +kernel)); ⟨a, vk_R.of (hts _ (List.mem_of_getElem? (i := 437) rfl)) h9⟩), List.forall_mem_cons.mpr ⟨(let ⟨a, h9⟩ := ex_ref (hs (Cond.exactly (.string "CrateCushions$Packing" 88) "java/lang/String") (by decide +kernel)); ⟨a, vk_R.of (hts _ (List.mem_of_getElem? (i := 509) rfl)) h9⟩), List.forall_mem_cons.mpr ⟨(let ⟨a, h9⟩ := ex_ref (hs (Cond.exactly (.string "CrateCushions$Packing" 84) "java/lang/String") (by decide +kernel)); ⟨a, vk_R.of (hts _ (List.mem_of_getElem? (i := 523) rfl)) h9⟩), List.forall_mem_cons.mpr ⟨(let ⟨a, h9⟩ := ex_ref (hs (Cond.exactly (.string "CrateCushions$Goods" 56) "java/lang/String") (by decide +kernel)); ⟨a, vk_R.of (hts _ (List.mem_of_getElem? (i := 577) rfl)) h9⟩), List.forall_mem_cons.mpr ⟨(let ⟨a, h9⟩ := ex_ref (hs (Cond.exactly (.string "CrateCushions$Air" 44) "java/lang/String") (by decide +kernel)); ⟨a, vk_R.of (hts _ (List.mem_of_getElem? (i := 635) rfl)) h9⟩), List.forall_mem_cons.mpr ⟨(let ⟨a, h9⟩ := ex_ref (hs (Cond.exactly (.string "CrateCushions" 149) "java/lang/String") (by decide +kernel)); ⟨a, vk_R.of (hts _ (List.mem_of_getElem? (i := 697) rfl)) h9⟩), fun _ h => absurd h List.not_mem_nil⟩⟩⟩⟩⟩⟩⟩⟩⟩⟩
set_option maxRecDepth 100000 in
set_option maxHeartbeats 4000000 in
theorem ev_T {args : Array Value} {s : State} (hts : ∀ w ∈ lw_tbl, w.before args s = true) (hgv : (Jvm.Cond.and given_1 narrow_1).before args s = true) : ∃ t, va_Z R_Cc "SIZE_OF_WAY" "[I" (.ref t) (fun q => s.heap.size ≤ q) s s.heap ∧ va_T .int t 18 (fun j => .int (wayT j)) (fun q => s.heap.size ≤ q) s s.heap := by
  have hs := flat_of_before _ hgv
  have hel : ∀ j : Nat, j < 18 → (Term.elem (.static "CrateCushions" "SIZE_OF_WAY" "[I") (.int (Int32.ofNat j))).eval args s none [] s = some (.int (wayT j)) := by
    intro j hj
    rcases (show j = 0 ∨ j = 1 ∨ j = 2 ∨ j = 3 ∨ j = 4 ∨ j = 5 ∨ j = 6 ∨ j = 7 ∨ j = 8 ∨ j = 9 ∨ j = 10 ∨ j = 11 ∨ j = 12 ∨ j = 13 ∨ j = 14 ∨ j = 15 ∨ j = 16 ∨ j = 17 by omega) with rfl | rfl | rfl | rfl | rfl | rfl | rfl | rfl | rfl | rfl | rfl | rfl | rfl | rfl | rfl | rfl | rfl | rfl
    · exact va_eqt (hs (Cond.eq (.elem (.static "CrateCushions" "SIZE_OF_WAY" "[I") (.int 0)) (.int 0)) (by decide +kernel))
    · exact va_eqt (hs (Cond.eq (.elem (.static "CrateCushions" "SIZE_OF_WAY" "[I") (.int 1)) (.int 1)) (by decide +kernel))
    · exact va_eqt (hs (Cond.eq (.elem (.static "CrateCushions" "SIZE_OF_WAY" "[I") (.int 2)) (.int 2)) (by decide +kernel))
    · exact va_eqt (hs (Cond.eq (.elem (.static "CrateCushions" "SIZE_OF_WAY" "[I") (.int 3)) (.int 1)) (by decide +kernel))
    · exact va_eqt (hs (Cond.eq (.elem (.static "CrateCushions" "SIZE_OF_WAY" "[I") (.int 4)) (.int 0)) (by decide +kernel))
    · exact va_eqt (hs (Cond.eq (.elem (.static "CrateCushions" "SIZE_OF_WAY" "[I") (.int 5)) (.int 2)) (by decide +kernel))
    · exact va_eqt (hs (Cond.eq (.elem (.static "CrateCushions" "SIZE_OF_WAY" "[I") (.int 6)) (.int 0)) (by decide +kernel))
    · exact va_eqt (hs (Cond.eq (.elem (.static "CrateCushions" "SIZE_OF_WAY" "[I") (.int 7)) (.int 2)) (by decide +kernel))
    · exact va_eqt (hs (Cond.eq (.elem (.static "CrateCushions" "SIZE_OF_WAY" "[I") (.int 8)) (.int 1)) (by decide +kernel))
    · exact va_eqt (hs (Cond.eq (.elem (.static "CrateCushions" "SIZE_OF_WAY" "[I") (.int 9)) (.int 2)) (by decide +kernel))
    · exact va_eqt (hs (Cond.eq (.elem (.static "CrateCushions" "SIZE_OF_WAY" "[I") (.int 10)) (.int 0)) (by decide +kernel))
    · exact va_eqt (hs (Cond.eq (.elem (.static "CrateCushions" "SIZE_OF_WAY" "[I") (.int 11)) (.int 1)) (by decide +kernel))
    · exact va_eqt (hs (Cond.eq (.elem (.static "CrateCushions" "SIZE_OF_WAY" "[I") (.int 12)) (.int 1)) (by decide +kernel))
    · exact va_eqt (hs (Cond.eq (.elem (.static "CrateCushions" "SIZE_OF_WAY" "[I") (.int 13)) (.int 2)) (by decide +kernel))
    · exact va_eqt (hs (Cond.eq (.elem (.static "CrateCushions" "SIZE_OF_WAY" "[I") (.int 14)) (.int 0)) (by decide +kernel))
    · exact va_eqt (hs (Cond.eq (.elem (.static "CrateCushions" "SIZE_OF_WAY" "[I") (.int 15)) (.int 2)) (by decide +kernel))
    · exact va_eqt (hs (Cond.eq (.elem (.static "CrateCushions" "SIZE_OF_WAY" "[I") (.int 16)) (.int 1)) (by decide +kernel))
    · exact va_eqt (hs (Cond.eq (.elem (.static "CrateCushions" "SIZE_OF_WAY" "[I") (.int 17)) (.int 0)) (by decide +kernel))
  obtain ⟨t, h1, h2⟩ := va_Tof (tm := (.static "CrateCushions" "SIZE_OF_WAY" "[I")) (ty := .int) (N := 18) (f := fun j => .int (wayT j)) (A := fun q => s.heap.size ≤ q) (by decide) (hs (Cond.arrayOf (.static "CrateCushions" "SIZE_OF_WAY" "[I") .int) (by decide +kernel)) (va_eqt (hs (Cond.eq (.length (.static "CrateCushions" "SIZE_OF_WAY" "[I")) (.int 18)) (by decide +kernel))) hel (fun a h => by omega)
  exact ⟨t, va_Zref (hts _ (List.mem_of_getElem? (i := 465) rfl)) (hts _ (List.mem_of_getElem? (i := 23) rfl)) h1 (fun a h => by omega), h2⟩
set_option maxRecDepth 100000 in
set_option maxHeartbeats 4000000 in
theorem ev_start {args : Array Value} {s : State} (hts : ∀ w ∈ lw_tbl, w.before args s = true) (hgv : (Jvm.Cond.and given_1 narrow_1).before args s = true) : EV (fun q => s.heap.size ≤ q) s s.heap := by
  have hs := flat_of_before _ hgv
  exact ⟨ev_NF hts, ev_NM hts, ev_NCa hts, ev_NDe hts, ev_NNc hgv, ev_SW hts hgv, vx_Zqof (hts _ (List.mem_of_getElem? (i := 271) rfl)) (hts _ (List.mem_of_getElem? (i := 32) rfl)) (hs (Cond.isRef (.static "java/lang/Throwable" "UNASSIGNED_STACK" "[Ljava/lang/StackTraceElement;")) (by decide +kernel)) (fun a h => by omega), vx_Zqof (hts _ (List.mem_of_getElem? (i := 273) rfl)) (hts _ (List.mem_of_getElem? (i := 32) rfl)) (hs (Cond.isRef (.static "java/lang/Throwable" "SUPPRESSED_SENTINEL" "Ljava/util/List;")) (by decide +kernel)) (fun a h => by omega), ev_T hts hgv⟩
set_option maxRecDepth 20000 in
theorem vk_start {args : Array Value} {s : State} (hts : ∀ w ∈ WL, w.before args s = true) : ∃ (D : va_G) (cI cZ cJ : ClassId), va_K D vwCl (TYS cI cZ cJ) s := by
  obtain ⟨cAi, iAi, kAi⟩ := u_known (C := R_Ai) (T := F_Ai) (N := 3) hts i_Ai (hts _ m_156)
  obtain ⟨cFo, iFo, kFo⟩ := u_known (C := R_Fo) (T := F_Fo) (N := 5) hts i_Fo (hts _ m_79)
  obtain ⟨cGo, iGo, kGo⟩ := u_known (C := R_Go) (T := F_Go) (N := 6) hts i_Go (hts _ m_50)
  obtain ⟨cJo, iJo, kJo⟩ := u_known (C := R_Jo) (T := F_Jo) (N := 2) hts i_Jo (hts _ m_194)
  obtain ⟨cPk, iPk, kPk⟩ := u_known (C := R_Pk) (T := F_Pk) (N := 8) hts i_Pk (hts _ m_101)
  obtain ⟨cSh, iSh, kSh⟩ := u_known (C := R_Sh) (T := F_Sh) (N := 4) hts i_Sh (hts _ m_173)
  obtain ⟨cSk, iSk, kSk⟩ := u_known (C := R_Sk) (T := F_Sk) (N := 5) hts i_Sk (hts _ m_132)
  obtain ⟨cCc, iCc, kCc⟩ := u_known (C := R_Cc) (T := F_Cc) (N := 7) hts i_Cc (hts _ m_42)
  obtain ⟨cMo, iMo, kMo⟩ := u_known (C := R_Mo) (T := F_Mo) (N := 31) hts i_Mo (hts _ m_699)
  obtain ⟨aI, gI, oI, fI, cI1, cI2⟩ := Cond.arrayClass_spec (hts _ m_77)
  obtain ⟨aZ, gZ, oZ, fZ, cZ1, cZ2⟩ := Cond.arrayClass_spec (hts _ m_154)
  obtain ⟨aJ, gJ, oJ, fJ, cJ1, cJ2⟩ := Cond.arrayClass_spec (hts _ m_947)
  refine ⟨(fun c => match c with | 0 => cAi | 1 => cFo | 2 => cGo | 3 => cJo | 4 => cPk | 5 => cSh | 6 => cSk | 7 => cCc | _ => cMo, fun c => match c with | 0 => iAi | 1 => iFo | 2 => iGo | 3 => iJo | 4 => iPk | 5 => iSh | 6 => iSk | 7 => iCc | _ => iMo), aI, aZ, aJ, fun c q hq => ?_, fun k q hq => ?_⟩
  · match c, hq with
    | 0, hq => cases hq; exact kAi
    | 1, hq => cases hq; exact kFo
    | 2, hq => cases hq; exact kGo
    | 3, hq => cases hq; exact kJo
    | 4, hq => cases hq; exact kPk
    | 5, hq => cases hq; exact kSh
    | 6, hq => cases hq; exact kSk
    | 7, hq => cases hq; exact kCc
    | 8, hq => cases hq; exact kMo
    | n + 9, hq => cases hq
  · match k, hq with
    | 0, hq => cases hq; exact ⟨fun n z => ⟨fun k h => (by cases h), gI, cI1, oI, cI2⟩, fI⟩
    | 1, hq => cases hq; exact ⟨fun n z => ⟨fun k h => (by cases h), gZ, cZ1, oZ, cZ2⟩, fZ⟩
    | 2, hq => cases hq; exact ⟨fun n z => ⟨fun k h => (by cases h), gJ, cJ1, oJ, cJ2⟩, fJ⟩
    | n + 3, hq => cases hq
