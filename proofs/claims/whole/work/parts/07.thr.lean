section THROWS
variable {p : Program} {l : Launch} {e : Env} {R : Room} {s : State} {m : MethodId} {args : Array Value} {below : List Frame} {meth : Method} {c : Code} {H : Heap} {locs : List Loc} {cells slots : Nat} {Q : State → Prop}
variable {own : String} {cc b : ByteArray} {nL n k index pc ci : Nat} {rt : Option FieldType} {rm : Room} {D : va_G} {ty : List (ClassId × FieldType)} {A : Nat → Prop} {y : MethodName} {As rest st0 : List Value} {ls : Array Slot} {a : Nat} {fs : List Value} {ws wc wr w1 ws' : va_W} {r : Int32} {E host : String} {T : u_T} {N : Nat} {Qc : Array Value → State → Outcome → State → Prop} {XC : String → State → State → Prop} {free : Addr → Prop} {mc ms : Nat} {w0 : va_W} {Pc : Array Value → State → Prop} {wl : List Cond}
theorem x_runSN (S : CallFix p m c cc nL s args WL own) (hM : vx_Met l y wl rm Pc Qc XC mc ms free) (cw : va_CN R s args own index y host b n rt wl rm mc ms k ∧ (Cond.static y).before args s = true ∧ True) (hp : PreS s H Pc As)
    (hn : As.length = k) (hsize : ls.size = nL) (hW : (rest.map fun v => v.category).sum ≤ 8) (hdg : decode cc pc = .ok (.invokestatic index, 3)) (hf : cells + mc ≤ R.cells ∧ slots + ms ≤ R.slots) :
    vx_Run p l e R s m args below meth c H locs cells slots mc ms (F0 m pc ls (As.reverse ++ rest)) rest (Qc As.toArray) XC free := by
  obtain ⟨⟨⟨hrc, hrs, hfr, hlo, hws, hcw⟩, hcode, hini, hy, hlen, hl⟩, hstt, -⟩ := cw
  have hK : vx_Back l R p e below s args y 3 8 (PreOf R mc ms Pc) (PostOf Qc mc ms free) (vx_Post XC mc ms free) := vx_back (bytes := b) (maxL := n) (ret := rt) hM hp.1 hrc hrs hfr hlo hws hcw (fun a' U hW => word_at hW (Or.inl (by first | rfl | simp [Cond.onTables, Cond.keeps, Cond.steady])) hini)
  obtain ⟨hx, hb, hml, ho, -⟩ := S
  intro T hT X
  obtain ⟨mk, hnamed⟩ := Cond.code_named hcode
  obtain ⟨methM, cM, hmethM, -, -, -, -, -, -, hsigM⟩ := Cond.code_spec hnamed hcode
  have hstatic : methM.isStatic = true := Cond.static_spec hnamed hmethM hstt
  obtain ⟨kP, hkP, -⟩ := className_of_methodNamed hnamed
  have hinitP : kP.init = .initialized := Cond.initialized_spec (findClass_of_methodNamed hnamed) hkP hini
  have hdg' : decode c.code pc = .ok (.invokestatic index, 3) := by rw [hb]; exact hdg
  obtain ⟨vm₁, X₁, hstep₁⟩ := X.invokestaticNest hx ho hl hnamed hmethM hstatic hkP hinitP hy (g := F0 m pc ls (As.reverse ++ rest)) rfl (argsL := As) (rest := rest) (hn.trans (hlen _ hsigM)) rfl hdg'
  rcases hK m meth c ⟨T.setVm vm₁, locs, cells, slots⟩ { F0 m pc ls (As.reverse ++ rest) with stack := rest } (.invokestatic index) mk As.toArray X₁ rfl (hsize.trans hml.symm) hdg' (lv_room (m := m) (pc := pc) (ls := ls) hW) (X₁.named hnamed) ⟨hf.1, hf.2, hp.2 (T.setVm vm₁) hT X₁.warmed⟩ with ⟨v, B, X', hpost, hsteps⟩ | ⟨q, B, X', hpost, hsteps⟩
  · obtain ⟨U', l2, c2, s2⟩ := B
    obtain ⟨g', mk', t, L, e1, e2, hq, h1, hL, h2, h3⟩ := hpost
    dsimp only [Pt.U, Pt.locs, Pt.cells, Pt.slots] at X' e1 e2 h1 h2 h3 hsteps
    subst h1; subst h2; subst h3
    exact Or.inl ⟨v, (T.setVm vm₁).calling g' mk' As.toArray, t, U', L, hT, X', hL, e1, e2, hq, fun target h => hstep₁ _ fun acts => by rw [doInvoke_state]; exact hsteps.trans h⟩
  · obtain ⟨U', l2, c2, s2⟩ := B
    obtain ⟨g', mk', t, L, E, ce, e1, e2, hq, hce, hcv, hcl, h1, hL, h2, h3⟩ := hpost
    dsimp only [Pt.U, Pt.locs, Pt.cells, Pt.slots] at X' e1 e2 h1 h2 h3 hsteps hcl
    subst h1; subst h2; subst h3
    exact Or.inr ⟨q, (T.setVm vm₁).calling g' mk' As.toArray, t, U', L, E, ce, hT, X', hL, e1, e2, hq, hce, hcv, vx_cls X₁.warmed hcl, hstep₁ _ fun acts => by rw [doInvoke_state]; exact hsteps⟩
/-- a call that throws -/
theorem x_row {SX : Type} {px : SX → Prop} {BX : String → SX → State → Prop} {A0 AX : Nat → Prop} {H0 : Heap} (hr : vx_Run p l e R s m args below meth c H locs cells slots mc ms (F0 m pc ls st0) rest (fun _ _ _ => False) (vx_X px BX AX) free) (hS : va_S A0 H0 H locs) (hf : ∀ q, free q → A0 q) (hAX : ∀ q, q < H.size → AX q → A0 q)
    (kx : ∀ (E : String) (ce : Cell) (q9 : Addr) (u : SX) (t : State) (H1 : Heap) (locs1 : List Loc), t.heap = H1 → s.vm.Alike t.vm → px u → BX E u t → H.size ≤ H1.size → (∀ q : Nat, q < H.size → ¬ AX q → H1[q]? = H[q]?) → va_S A0 H0 H1 locs1 → H1[q9]? = some ce → ce.vm = .none → s.vm.findClass E = some ce.cls → vx_W p l e R s m args below meth c H1 locs1 (cells + mc) (slots + ms) Q (F0 m pc ls rest) q9) : W p l e R s m args below meth c H locs cells slots Q (F0 m pc ls st0) := by
  intro T hT X
  rcases hr T hT X with ⟨v, st₀, t, T', L, h0, X', hL, e1, e2, hF, st⟩ | ⟨q, st₀, t, T', L, E, ce, h0, X', hL, e1, e2, ⟨u, hp, hb, hF⟩, hce, hcv, hcl, st⟩
  · exact hF.elim
  · obtain ⟨k1, k2, k3⟩ := vx_keep h0 e1 hS hAX hf hL hF
    obtain ⟨t2, a1, b1⟩ := kx E ce q u t T'.heap (locs ++ L) e1.symm (by rw [← e2]; exact X'.warmed.alike) hp hb k1 k2 k3 (by rw [e1]; exact hce) hcv hcl T' rfl X'
    exact ⟨t2, st.trans a1, b1⟩
/-- the end of a method that throws what its callee threw -/
theorem x_out (C0 : CX p s m args c own cc nL D ty A) (hAe : A = va_A w0 s.heap.size) (hno : ∀ x ∈ c.exceptionTable.toList, False) (hlocks : meth.locks = false) (hP : va_P D vwCl w0 H) (hD : va_D A w0) (hS : va_S A s.heap H locs)
    (isC : List Nat) (hC : isC.map (fun i => w0[i]?) = wc.map some) (hn : va_nd isC = true) (hB : rp w0 isC wc = w0)
    (hr : vx_Run p l e R s m args below meth c H locs cells slots 1 6 (F0 m pc ls st0) rest (fun _ _ _ => False) (XE D ty wc H.size E) (va_A wc H.size)) (hcs : cells = 0 ∧ slots = 0) :
    W p l e R s m args below meth c H locs cells slots (vx_MQ below (fun _ _ _ _ => False) (XE D ty w0 s.heap.size E) args s 1 6 (va_A w0 s.heap.size)) (F0 m pc ls st0) := by
  have hFc := c_free C0 hD hS isC hC
  obtain ⟨rfl, rfl⟩ := hcs
  refine x_row hr hS hFc (fun q _ h => hFc q h) (fun E' ce q9 u t H1 locs1 ht hvm hpx hb hz hk hS1 hce hcv hcl => ?_)
  obtain ⟨rfl, hb⟩ := hb
  obtain ⟨hP2, hD2⟩ := c_kk C0 hP hD hS isC hC hn rfl ht hb hk
  rw [hB] at hP2 hD2
  refine vx_out (fun x hx => (hno x hx).elim) hlocks hce hcv hcl (fun t' ht' ha => ⟨(), trivial, ⟨rfl, by rw [ht']; exact hP2, va_K.moved ha C0.2.2.2.2.2.1, hAe ▸ hD2⟩, ?_⟩) (fun z hz => hAe ▸ hS1.2.2 z hz) (by omega) (by omega)
  have h9 := hS1.F (s := s) (t := t') ht'
  rw [hAe] at h9
  exact h9
theorem rV (C0 : CX p s m args c own cc nL D ty A) (hP : va_P D vwCl ws H) (hD : va_D A ws) (hS : va_S A s.heap H locs) (hls : ls.size = nL) (isC : List Nat) (hM : MT l y b n rt rm D ty (.ref a :: As) wc H.size E) (hY : YV y b n rt k) (hl : Cond.methodLink own index y ∈ WL) (hc : vwCl[ci]? = some (y.cls, T, N)) (hr0 : wc[0]? = some (a, .inr (ci, fs))) (hC : isC.map (fun i => ws[i]?) = wc.map some) (hn : va_nd isC = true)
    (hRm : rm.frames + 1 ≤ R.frames ∧ 8 + (n + 11) + rm.locals ≤ R.locals) (hrc : rm.cells = 1 ∧ rm.slots = 6) (hlen : As.length = k) (hst : (rest.map fun v => v.category).sum ≤ 8) (hdg : decode cc pc = .ok (.invokevirtual index, 3)) (hcs : cells + 1 ≤ R.cells ∧ slots + 6 ≤ R.slots) :
    vx_Run p l e R s m args below meth c H locs cells slots 1 6 (F0 m pc ls (As.reverse ++ .ref a :: rest)) rest (fun _ _ _ => False) (XE D ty wc H.size E) (va_A wc H.size) := by
  have hPc : va_P D vwCl wc H := fun j q hq => by
    have h1 : (isC.map (fun i => ws[i]?))[j]? = some (some q) := by rw [hC, List.getElem?_map, hq]; rfl
    rw [List.getElem?_map] at h1
    cases hi : isC[j]? with
    | none => rw [hi] at h1; cases h1
    | some i =>
      rw [hi] at h1
      exact hP i q (Option.some.inj h1)
  have hp : PreV s H y.cls a (cPc D ty (.ref a :: As) wc H.size) As := ⟨cPc_blind, va_recv C0.2.2.2.2.2.1 hPc (ci := ci) (q0 := 0) hc hr0, c_at C0 hP hD hS isC hC hn⟩
  exact vx_runV (C := y.cls) (b := a) (As := As) (rest := rest) (c_fix C0) hM (c_cwV C0 hY hl hRm hrc.1 hrc.2) hp rfl hlen hls rfl (lv_room hst) hdg hcs
theorem rS (C0 : CX p s m args c own cc nL D ty A) (hP : va_P D vwCl ws H) (hD : va_D A ws) (hS : va_S A s.heap H locs) (hls : ls.size = nL) (isC : List Nat) (hM : MT l y b n rt rm D ty As wc H.size E) (hY : YS y b n rt k) (hl : Cond.methodLink own index y ∈ WL) (hC : isC.map (fun i => ws[i]?) = wc.map some) (hn : va_nd isC = true)
    (hRm : rm.frames + 1 ≤ R.frames ∧ 8 + (n + 11) + rm.locals ≤ R.locals) (hrc : rm.cells = 1 ∧ rm.slots = 6) (hlen : As.length = k) (hst : (rest.map fun v => v.category).sum ≤ 8) (hdg : decode cc pc = .ok (.invokestatic index, 3)) (hcs : cells + 1 ≤ R.cells ∧ slots + 6 ≤ R.slots) :
    vx_Run p l e R s m args below meth c H locs cells slots 1 6 (F0 m pc ls (As.reverse ++ rest)) rest (fun _ _ _ => False) (XE D ty wc H.size E) (va_A wc H.size) := by
  have hp : PreS s H (cPc D ty As wc H.size) As := ⟨cPc_blind, c_at C0 hP hD hS isC hC hn⟩
  exact vx_runS (As := As) (rest := rest) (c_fix C0) hM (c_cwS C0 hY hl hRm hrc.1 hrc.2) hp rfl hlen hls rfl (lv_room hst) hdg hcs
theorem rN (C0 : CX p s m args c own cc nL D ty A) (hP : va_P D vwCl ws H) (hD : va_D A ws) (hS : va_S A s.heap H locs) (hls : ls.size = nL) (isC : List Nat) (hM : MT l y b n rt rm D ty As wc H.size E) (hY : YS y b n rt k) (hl : (own, index, y, host) ∈ NM) (hC : isC.map (fun i => ws[i]?) = wc.map some) (hn : va_nd isC = true)
    (hRm : rm.frames + 1 ≤ R.frames ∧ 8 + (n + 11) + rm.locals ≤ R.locals) (hrc : rm.cells = 1 ∧ rm.slots = 6) (hlen : As.length = k) (hst : (rest.map fun v => v.category).sum ≤ 8) (hdg : decode cc pc = .ok (.invokestatic index, 3)) (hcs : cells + 1 ≤ R.cells ∧ slots + 6 ≤ R.slots) :
    vx_Run p l e R s m args below meth c H locs cells slots 1 6 (F0 m pc ls (As.reverse ++ rest)) rest (fun _ _ _ => False) (XE D ty wc H.size E) (va_A wc H.size) := by
  have hp : PreS s H (cPc D ty As wc H.size) As := ⟨cPc_blind, c_at C0 hP hD hS isC hC hn⟩
  exact x_runSN (As := As) (rest := rest) (c_fix C0) hM (c_cwN C0 hY hl hRm hrc.1 hrc.2) hp hlen hls hst hdg hcs
def xNm : List String := ["java/lang/RuntimeException", "java/lang/Exception"]
def xBad (E : String) : List Cond := [.castable E E, .declares ⟨"java/lang/RuntimeException", "<init>", "(Ljava/lang/String;)V"⟩, .declares ⟨"java/lang/Exception", "<init>", "(Ljava/lang/String;)V"⟩, .declares ⟨"java/lang/Throwable", "<init>", "(Ljava/lang/String;)V"⟩]
/-- what a 'throw new' of this method knows -/
def YT (own : String) (ik is ic : Nat) (E text : String) : Prop := Cond.classLink own ik E ∈ WL ∧ Cond.initialized E ∈ WL ∧ (own, is, text) ∈ SW ∧ E ∈ NCa ∧ (∀ w ∈ (vx_atS own ic E xNm).filter goodWord, w ∈ WL) ∧ (∀ w ∈ (vx_atS own ic E xNm).filter (fun w => !goodWord w), w ∈ xBad E) ∧ Bundle.fit E = true ∧ (∀ n ∈ xNm, Bundle.fit n = true) ∧ (∀ w ∈ Cond.classLink own ik E :: Cond.initialized E :: vx_atS own ic E xNm, vx_ot w = true)
theorem x_new {ik is ic : Nat} {text : String} (C0 : CX p s m args c own cc nL D ty A) (hAe : A = va_A w0 s.heap.size) (hltr : l.stackTraces = false) (hno : ∀ x ∈ c.exceptionTable.toList, False) (hlocks : meth.locks = false) (hP : va_P D vwCl w0 H) (hD : va_D A w0) (hS : va_S A s.heap H locs) (hls : ls.size = nL) (hY : YT own ik is ic E text)
    (d0 : decode cc pc = .ok (.new ik, 3)) (d3 : decode cc (pc + 3) = .ok (.dup, 1)) (d4 : decode cc (pc + 4) = .ok (.ldc is, 2)) (d6 : decode cc (pc + 6) = .ok (.invokespecial ic, 3)) (d9 : decode cc (pc + 9) = .ok (.athrow, 1))
    (hRm : 5 < R.frames ∧ (rest.map fun v => v.category).sum + 82 ≤ R.locals ∧ 1 ≤ R.cells ∧ 6 ≤ R.slots) :
    W p l e R s m args below meth c H locs 0 0 (vx_MQ below (fun _ _ _ _ => False) (XE D ty w0 s.heap.size E) args s 1 6 (va_A w0 s.heap.size)) (F0 m pc ls rest) := by
  obtain ⟨h1, h2, h3, h4, h5, h6, h7, h8, h9⟩ := hY
  obtain ⟨hx, hb, hml, hown, hts, hK, hE, hA⟩ := C0
  obtain ⟨sa, hsa⟩ := hE.2.2.2.2.2.1 _ h3
  have hbad : ∀ w ∈ xBad E, w.before args s = true := vx_c (va_Nw.use rfl (hE.2.2.1 _ h4)) (vx_c (va_Nw.use rfl (hE.2.2.2.1 _ (by simp [NDe]))) (vx_c (va_Nw.use rfl (hE.2.2.2.1 _ (by simp [NDe]))) (vx_c (va_Nw.use rfl (hE.2.2.2.1 _ (by simp [NDe]))) vx_n)))
  refine vx_throwS hx hb hltr (names := xNm) (A := A) hown h7 h8 (hts _ h1) (hts _ h2) hsa (vx_hat (fun w hw => hts w (h5 w hw)) h6 hbad) h9 hE.2.2.2.2.2.2.1 hE.2.2.2.2.2.2.2.1 hS (hls.trans hml.symm) d0 d3 d4 d6 d9 (fun x hx => (hno x hx).elim) hRm.1 hRm.2.1 (by omega) (by omega) hlocks ?_ (fun z hz => hAe ▸ hS.2.2 z hz) (by omega) (by omega)
  intro t ha hz hk
  have hq : ∀ q : Nat, q < H.size → t.heap[q]? = H[q]? := hk
  refine ⟨(), trivial, ⟨rfl, hP.kept (fun j q hj => hq _ (hP j q hj).lt), va_K.moved ha hK, hAe ▸ hD⟩, ?_⟩
  refine ⟨Nat.le_trans hS.1 hz, fun q h1 h2 => ?_⟩
  rw [hq q (Nat.lt_of_lt_of_le h1 hS.1)]
  exact hS.2.1 q h1 (by rw [hAe]; exact h2)
end THROWS
