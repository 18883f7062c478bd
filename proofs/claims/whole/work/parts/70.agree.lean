set_option maxRecDepth 20000 in
theorem g_object {l : Launch} (hltr : l.stackTraces = false) {D : va_G} {cI cZ cJ : ClassId} {xCc : Nat} {xGo : Nat → Nat} {xFo : Nat → Nat} {xPk : Nat → Nat} {xSk : Nat → Nat} {xAi : Nat → Nat} {xSh : Nat → Nat} {xJo : Nat → Nat} {xo : Nat} {gGo : St} {gFo : St} {gPk : St} {qPk : Int64} {gSk : St} {gAi : St} {gSh : St} {gJo : St} {q : Nat → Int64} {o : St} (h : INV gGo gFo gPk qPk gSk gAi gSh gJo o) (p1 : Int32) (p2 : Int32) (p3 : Int32) (p4 : Int32) : ∃ (k : Int32) (b : Int32) (gGo1 : St) (q1 : Nat → Int64) (o1 : St), (∀ sz, MW l y_La_object b_La_object 7 [(0, 14, 17, 13), (0, 14, 21, 15)] rm_La_object D (TYS cI cZ cJ) [.ref xCc, .int p1, .int p2, .int p3, .int p4, .ref xo] (wCc xCc cI cZ xGo xFo xPk xSk xAi xSh xJo gGo gFo gPk qPk gSk gAi gSh gJo ++ ([(xo, .inl (cJ, 1, .inr (.inl q)))] : va_W)) sz k (wCc xCc cI cZ xGo xFo xPk xSk xAi xSh xJo gGo1 gFo gPk qPk gSk gAi gSh gJo ++ ([(xo, .inl (cJ, 1, .inr (.inl q1)))] : va_W))) ∧ f_Mo_object o p1 p2 p3 p4 = some (b, o1) ∧ o1 0 0 = k ∧ (k = 0 → q1 (0 : Int32).toNatClampNeg = b.toInt64) ∧ INV gGo1 gFo gPk qPk gSk gAi gSh gJo o1 := by
  rcases op_object h p1 p2 p3 p4 with ⟨E, k, b, hEk, e1, e2⟩ | ⟨r, x, o', e1, e2, e3, e4⟩
  · have hk : ¬ k = 0 := by
      rcases List.mem_cons.mp hEk with hq | hEk
      · rw [(Prod.mk.inj hq).2]; decide
      rcases List.mem_cons.mp hEk with hq | hEk
      · rw [(Prod.mk.inj hq).2]; decide
      exact absurd hEk List.not_mem_nil
    exact ⟨k, b, gGo, q, up2 o 0 0 k, fun sz => w_object_t l D cI cZ cJ xCc xGo xFo xPk xSk xAi xSh xJo xo sz gGo gFo gPk qPk gSk gAi gSh gJo q p1 p2 p3 p4 hltr E k hEk e1, e2, rfl, fun hk0 => absurd hk0 hk, h.thr k⟩
  · exact ⟨0, r, x, (vp_updL q (0 : Int32).toNatClampNeg (r.toInt64)), o', fun sz => w_object_r l D cI cZ cJ xCc xGo xFo xPk xSk xAi xSh xJo xo sz gGo gFo gPk qPk gSk gAi gSh gJo q p1 p2 p3 p4 r x e1, e2, e3, fun _ => if_pos rfl, e4⟩
set_option maxRecDepth 20000 in
theorem g_weak {l : Launch} (hltr : l.stackTraces = false) {D : va_G} {cI cZ cJ : ClassId} {xCc : Nat} {xGo : Nat → Nat} {xFo : Nat → Nat} {xPk : Nat → Nat} {xSk : Nat → Nat} {xAi : Nat → Nat} {xSh : Nat → Nat} {xJo : Nat → Nat} {xo : Nat} {gGo : St} {gFo : St} {gPk : St} {qPk : Int64} {gSk : St} {gAi : St} {gSh : St} {gJo : St} {q : Nat → Int64} {o : St} (h : INV gGo gFo gPk qPk gSk gAi gSh gJo o) (p1 : Int32) (p2 : Int32) (p3 : Int32) (hp3 : p3 = 0 ∨ p3 = 1) : ∃ (k : Int32) (b : Int32) (gGo1 : St) (q1 : Nat → Int64) (o1 : St), (∀ sz, MW l y_La_weak b_La_weak 6 [(0, 19, 22, 21)] rm_La_weak D (TYS cI cZ cJ) [.ref xCc, .int p1, .int p2, .int p3, .ref xo] (wCc xCc cI cZ xGo xFo xPk xSk xAi xSh xJo gGo gFo gPk qPk gSk gAi gSh gJo ++ ([(xo, .inl (cJ, 1, .inr (.inl q)))] : va_W)) sz k (wCc xCc cI cZ xGo xFo xPk xSk xAi xSh xJo gGo1 gFo gPk qPk gSk gAi gSh gJo ++ ([(xo, .inl (cJ, 1, .inr (.inl q1)))] : va_W))) ∧ f_Mo_weak o p1 p2 p3 = some (b, o1) ∧ o1 0 0 = k ∧ (k = 0 → q1 (0 : Int32).toNatClampNeg = bz b) ∧ INV gGo1 gFo gPk qPk gSk gAi gSh gJo o1 := by
  rcases op_weak h p1 p2 p3 hp3 with ⟨E, k, b, hEk, e1, e2⟩ | ⟨r, x, o', e1, e2, e3, e4⟩
  · have hk : ¬ k = 0 := by
      rcases List.mem_cons.mp hEk with hq | hEk
      · rw [(Prod.mk.inj hq).2]; decide
      exact absurd hEk List.not_mem_nil
    exact ⟨k, b, gGo, q, up2 o 0 0 k, fun sz => w_weak_t l D cI cZ cJ xCc xGo xFo xPk xSk xAi xSh xJo xo sz gGo gFo gPk qPk gSk gAi gSh gJo q p1 p2 p3 hltr E k hEk e1, e2, rfl, fun hk0 => absurd hk0 hk, h.thr k⟩
  · exact ⟨0, r, x, (vp_updL q (0 : Int32).toNatClampNeg (bz r)), o', fun sz => w_weak_r l D cI cZ cJ xCc xGo xFo xPk xSk xAi xSh xJo xo sz gGo gFo gPk qPk gSk gAi gSh gJo q p1 p2 p3 r x e1, e2, e3, fun _ => if_pos rfl, e4⟩
set_option maxRecDepth 20000 in
theorem g_foam {l : Launch} (hltr : l.stackTraces = false) {D : va_G} {cI cZ cJ : ClassId} {xCc : Nat} {xGo : Nat → Nat} {xFo : Nat → Nat} {xPk : Nat → Nat} {xSk : Nat → Nat} {xAi : Nat → Nat} {xSh : Nat → Nat} {xJo : Nat → Nat} {xo : Nat} {gGo : St} {gFo : St} {gPk : St} {qPk : Int64} {gSk : St} {gAi : St} {gSh : St} {gJo : St} {q : Nat → Int64} {o : St} (h : INV gGo gFo gPk qPk gSk gAi gSh gJo o) (p1 : Int32) (p2 : Int32) : ∃ (k : Int32) (b : Int32) (gFo1 : St) (q1 : Nat → Int64) (o1 : St), (∀ sz, MW l y_La_foam b_La_foam 5 [(0, 10, 13, 21), (0, 10, 17, 13), (0, 10, 21, 15)] rm_La_foam D (TYS cI cZ cJ) [.ref xCc, .int p1, .int p2, .ref xo] (wCc xCc cI cZ xGo xFo xPk xSk xAi xSh xJo gGo gFo gPk qPk gSk gAi gSh gJo ++ ([(xo, .inl (cJ, 1, .inr (.inl q)))] : va_W)) sz k (wCc xCc cI cZ xGo xFo xPk xSk xAi xSh xJo gGo gFo1 gPk qPk gSk gAi gSh gJo ++ ([(xo, .inl (cJ, 1, .inr (.inl q1)))] : va_W))) ∧ f_Mo_foam o p1 p2 = some (b, o1) ∧ o1 0 0 = k ∧ (k = 0 → q1 (0 : Int32).toNatClampNeg = b.toInt64) ∧ INV gGo gFo1 gPk qPk gSk gAi gSh gJo o1 := by
  rcases op_foam h p1 p2 with ⟨E, k, b, hEk, e1, e2⟩ | ⟨r, x, o', e1, e2, e3, e4⟩
  · have hk : ¬ k = 0 := by
      rcases List.mem_cons.mp hEk with hq | hEk
      · rw [(Prod.mk.inj hq).2]; decide
      rcases List.mem_cons.mp hEk with hq | hEk
      · rw [(Prod.mk.inj hq).2]; decide
      rcases List.mem_cons.mp hEk with hq | hEk
      · rw [(Prod.mk.inj hq).2]; decide
      exact absurd hEk List.not_mem_nil
    exact ⟨k, b, gFo, q, up2 o 0 0 k, fun sz => w_foam_t l D cI cZ cJ xCc xGo xFo xPk xSk xAi xSh xJo xo sz gGo gFo gPk qPk gSk gAi gSh gJo q p1 p2 hltr E k hEk e1, e2, rfl, fun hk0 => absurd hk0 hk, h.thr k⟩
  · exact ⟨0, r, x, (vp_updL q (0 : Int32).toNatClampNeg (r.toInt64)), o', fun sz => w_foam_r l D cI cZ cJ xCc xGo xFo xPk xSk xAi xSh xJo xo sz gGo gFo gPk qPk gSk gAi gSh gJo q p1 p2 r x e1, e2, e3, fun _ => if_pos rfl, e4⟩
set_option maxRecDepth 20000 in
theorem g_point {l : Launch} (hltr : l.stackTraces = false) {D : va_G} {cI cZ cJ : ClassId} {xCc : Nat} {xGo : Nat → Nat} {xFo : Nat → Nat} {xPk : Nat → Nat} {xSk : Nat → Nat} {xAi : Nat → Nat} {xSh : Nat → Nat} {xJo : Nat → Nat} {xo : Nat} {gGo : St} {gFo : St} {gPk : St} {qPk : Int64} {gSk : St} {gAi : St} {gSh : St} {gJo : St} {q : Nat → Int64} {o : St} (h : INV gGo gFo gPk qPk gSk gAi gSh gJo o) (p1 : Int32) (p2 : Int32) (p3 : Int32) (p4 : Int32) : ∃ (k : Int32) (b : Int32) (gFo1 : St) (q1 : Nat → Int64) (o1 : St), (∀ sz, MW l y_La_point b_La_point 7 [(0, 14, 17, 21), (0, 14, 21, 13), (0, 14, 25, 15)] rm_La_point D (TYS cI cZ cJ) [.ref xCc, .int p1, .int p2, .int p3, .int p4, .ref xo] (wCc xCc cI cZ xGo xFo xPk xSk xAi xSh xJo gGo gFo gPk qPk gSk gAi gSh gJo ++ ([(xo, .inl (cJ, 1, .inr (.inl q)))] : va_W)) sz k (wCc xCc cI cZ xGo xFo xPk xSk xAi xSh xJo gGo gFo1 gPk qPk gSk gAi gSh gJo ++ ([(xo, .inl (cJ, 1, .inr (.inl q1)))] : va_W))) ∧ f_Mo_point o p1 p2 p3 p4 = some (b, o1) ∧ o1 0 0 = k ∧ (k = 0 → q1 (0 : Int32).toNatClampNeg = b.toInt64) ∧ INV gGo gFo1 gPk qPk gSk gAi gSh gJo o1 := by
  rcases op_point h p1 p2 p3 p4 with ⟨E, k, b, hEk, e1, e2⟩ | ⟨r, x, o', e1, e2, e3, e4⟩
  · have hk : ¬ k = 0 := by
      rcases List.mem_cons.mp hEk with hq | hEk
      · rw [(Prod.mk.inj hq).2]; decide
      rcases List.mem_cons.mp hEk with hq | hEk
      · rw [(Prod.mk.inj hq).2]; decide
      rcases List.mem_cons.mp hEk with hq | hEk
      · rw [(Prod.mk.inj hq).2]; decide
      exact absurd hEk List.not_mem_nil
    exact ⟨k, b, gFo, q, up2 o 0 0 k, fun sz => w_point_t l D cI cZ cJ xCc xGo xFo xPk xSk xAi xSh xJo xo sz gGo gFo gPk qPk gSk gAi gSh gJo q p1 p2 p3 p4 hltr E k hEk e1, e2, rfl, fun hk0 => absurd hk0 hk, h.thr k⟩
  · exact ⟨0, r, x, (vp_updL q (0 : Int32).toNatClampNeg (r.toInt64)), o', fun sz => w_point_r l D cI cZ cJ xCc xGo xFo xPk xSk xAi xSh xJo xo sz gGo gFo gPk qPk gSk gAi gSh gJo q p1 p2 p3 p4 r x e1, e2, e3, fun _ => if_pos rfl, e4⟩
set_option maxRecDepth 20000 in
theorem g_value {l : Launch} (hltr : l.stackTraces = false) {D : va_G} {cI cZ cJ : ClassId} {xCc : Nat} {xGo : Nat → Nat} {xFo : Nat → Nat} {xPk : Nat → Nat} {xSk : Nat → Nat} {xAi : Nat → Nat} {xSh : Nat → Nat} {xJo : Nat → Nat} {xo : Nat} {gGo : St} {gFo : St} {gPk : St} {qPk : Int64} {gSk : St} {gAi : St} {gSh : St} {gJo : St} {q : Nat → Int64} {o : St} (h : INV gGo gFo gPk qPk gSk gAi gSh gJo o) (p1 : Int32) (p2 : Int32) (p3 : Int32) : ∃ (k : Int32) (b : Int32) (q1 : Nat → Int64) (o1 : St), (∀ sz, MW l y_La_value b_La_value 6 [(0, 12, 15, 21)] rm_La_value D (TYS cI cZ cJ) [.ref xCc, .int p1, .int p2, .int p3, .ref xo] (wCc xCc cI cZ xGo xFo xPk xSk xAi xSh xJo gGo gFo gPk qPk gSk gAi gSh gJo ++ ([(xo, .inl (cJ, 1, .inr (.inl q)))] : va_W)) sz k (wCc xCc cI cZ xGo xFo xPk xSk xAi xSh xJo gGo gFo gPk qPk gSk gAi gSh gJo ++ ([(xo, .inl (cJ, 1, .inr (.inl q1)))] : va_W))) ∧ f_Mo_value o p1 p2 p3 = some (b, o1) ∧ o1 0 0 = k ∧ (k = 0 → q1 (0 : Int32).toNatClampNeg = b.toInt64) ∧ INV gGo gFo gPk qPk gSk gAi gSh gJo o1 := by
  rcases op_value h p1 p2 p3 with ⟨E, k, b, hEk, e1, e2⟩ | ⟨r, o', e1, e2, e3, e4⟩
  · have hk : ¬ k = 0 := by
      rcases List.mem_cons.mp hEk with hq | hEk
      · rw [(Prod.mk.inj hq).2]; decide
      exact absurd hEk List.not_mem_nil
    exact ⟨k, b, q, up2 o 0 0 k, fun sz => w_value_t l D cI cZ cJ xCc xGo xFo xPk xSk xAi xSh xJo xo sz gGo gFo gPk qPk gSk gAi gSh gJo q p1 p2 p3 hltr E k hEk e1, e2, rfl, fun hk0 => absurd hk0 hk, h.thr k⟩
  · exact ⟨0, r, (vp_updL q (0 : Int32).toNatClampNeg (r.toInt64)), o', fun sz => w_value_r l D cI cZ cJ xCc xGo xFo xPk xSk xAi xSh xJo xo sz gGo gFo gPk qPk gSk gAi gSh gJo q p1 p2 p3 r  e1, e2, e3, fun _ => if_pos rfl, e4⟩
set_option maxRecDepth 20000 in
theorem g_thickness {l : Launch} (hltr : l.stackTraces = false) {D : va_G} {cI cZ cJ : ClassId} {xCc : Nat} {xGo : Nat → Nat} {xFo : Nat → Nat} {xPk : Nat → Nat} {xSk : Nat → Nat} {xAi : Nat → Nat} {xSh : Nat → Nat} {xJo : Nat → Nat} {xo : Nat} {gGo : St} {gFo : St} {gPk : St} {qPk : Int64} {gSk : St} {gAi : St} {gSh : St} {gJo : St} {q : Nat → Int64} {o : St} (h : INV gGo gFo gPk qPk gSk gAi gSh gJo o) (p1 : Int32) (p2 : Int32) (p3 : Int32) : ∃ (k : Int32) (b : Int32) (q1 : Nat → Int64) (o1 : St), (∀ sz, MW l y_La_thickness b_La_thickness 6 [(0, 12, 15, 21)] rm_La_thickness D (TYS cI cZ cJ) [.ref xCc, .int p1, .int p2, .int p3, .ref xo] (wCc xCc cI cZ xGo xFo xPk xSk xAi xSh xJo gGo gFo gPk qPk gSk gAi gSh gJo ++ ([(xo, .inl (cJ, 1, .inr (.inl q)))] : va_W)) sz k (wCc xCc cI cZ xGo xFo xPk xSk xAi xSh xJo gGo gFo gPk qPk gSk gAi gSh gJo ++ ([(xo, .inl (cJ, 1, .inr (.inl q1)))] : va_W))) ∧ f_Mo_thickness o p1 p2 p3 = some (b, o1) ∧ o1 0 0 = k ∧ (k = 0 → q1 (0 : Int32).toNatClampNeg = b.toInt64) ∧ INV gGo gFo gPk qPk gSk gAi gSh gJo o1 := by
  rcases op_thickness h p1 p2 p3 with ⟨E, k, b, hEk, e1, e2⟩ | ⟨r, o', e1, e2, e3, e4⟩
  · have hk : ¬ k = 0 := by
      rcases List.mem_cons.mp hEk with hq | hEk
      · rw [(Prod.mk.inj hq).2]; decide
      exact absurd hEk List.not_mem_nil
    exact ⟨k, b, q, up2 o 0 0 k, fun sz => w_thickness_t l D cI cZ cJ xCc xGo xFo xPk xSk xAi xSh xJo xo sz gGo gFo gPk qPk gSk gAi gSh gJo q p1 p2 p3 hltr E k hEk e1, e2, rfl, fun hk0 => absurd hk0 hk, h.thr k⟩
  · exact ⟨0, r, (vp_updL q (0 : Int32).toNatClampNeg (r.toInt64)), o', fun sz => w_thickness_r l D cI cZ cJ xCc xGo xFo xPk xSk xAi xSh xJo xo sz gGo gFo gPk qPk gSk gAi gSh gJo q p1 p2 p3 r  e1, e2, e3, fun _ => if_pos rfl, e4⟩
set_option maxRecDepth 20000 in
theorem g_pack {l : Launch} (hltr : l.stackTraces = false) {D : va_G} {cI cZ cJ : ClassId} {xCc : Nat} {xGo : Nat → Nat} {xFo : Nat → Nat} {xPk : Nat → Nat} {xSk : Nat → Nat} {xAi : Nat → Nat} {xSh : Nat → Nat} {xJo : Nat → Nat} {xo : Nat} {gGo : St} {gFo : St} {gPk : St} {qPk : Int64} {gSk : St} {gAi : St} {gSh : St} {gJo : St} {q : Nat → Int64} {o : St} (h : INV gGo gFo gPk qPk gSk gAi gSh gJo o) (p1 : Int32) (p2 : Int32) : ∃ (k : Int32) (b : Int32) (gPk1 : St) (qPk1 : Int64) (q1 : Nat → Int64) (o1 : St), (∀ sz, MW l y_La_pack b_La_pack 5 [(0, 10, 13, 21), (0, 10, 17, 15)] rm_La_pack D (TYS cI cZ cJ) [.ref xCc, .int p1, .int p2, .ref xo] (wCc xCc cI cZ xGo xFo xPk xSk xAi xSh xJo gGo gFo gPk qPk gSk gAi gSh gJo ++ ([(xo, .inl (cJ, 1, .inr (.inl q)))] : va_W)) sz k (wCc xCc cI cZ xGo xFo xPk xSk xAi xSh xJo gGo gFo gPk1 qPk1 gSk gAi gSh gJo ++ ([(xo, .inl (cJ, 1, .inr (.inl q1)))] : va_W))) ∧ f_Mo_pack o p1 p2 = some (b, o1) ∧ o1 0 0 = k ∧ (k = 0 → q1 (0 : Int32).toNatClampNeg = b.toInt64) ∧ INV gGo gFo gPk1 qPk1 gSk gAi gSh gJo o1 := by
  rcases op_pack h p1 p2 with ⟨E, k, b, hEk, e1, e2⟩ | ⟨r, x, o', e1, e2, e3, e4⟩
  · have hk : ¬ k = 0 := by
      rcases List.mem_cons.mp hEk with hq | hEk
      · rw [(Prod.mk.inj hq).2]; decide
      rcases List.mem_cons.mp hEk with hq | hEk
      · rw [(Prod.mk.inj hq).2]; decide
      exact absurd hEk List.not_mem_nil
    exact ⟨k, b, gPk, qPk, q, up2 o 0 0 k, fun sz => w_pack_t l D cI cZ cJ xCc xGo xFo xPk xSk xAi xSh xJo xo sz gGo gFo gPk qPk gSk gAi gSh gJo q p1 p2 hltr E k hEk e1, e2, rfl, fun hk0 => absurd hk0 hk, h.thr k⟩
  · exact ⟨0, r, x.1, x.2, (vp_updL q (0 : Int32).toNatClampNeg (r.toInt64)), o', fun sz => w_pack_r l D cI cZ cJ xCc xGo xFo xPk xSk xAi xSh xJo xo sz gGo gFo gPk qPk gSk gAi gSh gJo q p1 p2 r x.1 x.2 e1, e2, e3, fun _ => if_pos rfl, e4⟩
set_option maxRecDepth 20000 in
theorem g_size {l : Launch} (hltr : l.stackTraces = false) {D : va_G} {cI cZ cJ : ClassId} {xCc : Nat} {xGo : Nat → Nat} {xFo : Nat → Nat} {xPk : Nat → Nat} {xSk : Nat → Nat} {xAi : Nat → Nat} {xSh : Nat → Nat} {xJo : Nat → Nat} {xo : Nat} {gGo : St} {gFo : St} {gPk : St} {qPk : Int64} {gSk : St} {gAi : St} {gSh : St} {gJo : St} {q : Nat → Int64} {o : St} (h : INV gGo gFo gPk qPk gSk gAi gSh gJo o) (p1 : Int32) : ∃ (k : Int32) (b : Int32) (q1 : Nat → Int64) (o1 : St), (∀ sz, MW l y_La_size b_La_size 4 [(0, 9, 12, 21), (0, 9, 15, 13)] rm_La_size D (TYS cI cZ cJ) [.ref xCc, .int p1, .ref xo] (wCc xCc cI cZ xGo xFo xPk xSk xAi xSh xJo gGo gFo gPk qPk gSk gAi gSh gJo ++ ([(xo, .inl (cJ, 1, .inr (.inl q)))] : va_W)) sz k (wCc xCc cI cZ xGo xFo xPk xSk xAi xSh xJo gGo gFo gPk qPk gSk gAi gSh gJo ++ ([(xo, .inl (cJ, 1, .inr (.inl q1)))] : va_W))) ∧ f_Mo_size o p1 = some (b, o1) ∧ o1 0 0 = k ∧ (k = 0 → q1 (0 : Int32).toNatClampNeg = b.toInt64) ∧ INV gGo gFo gPk qPk gSk gAi gSh gJo o1 := by
  rcases op_size h p1 with ⟨E, k, b, hEk, e1, e2⟩ | ⟨r, o', e1, e2, e3, e4⟩
  · have hk : ¬ k = 0 := by
      rcases List.mem_cons.mp hEk with hq | hEk
      · rw [(Prod.mk.inj hq).2]; decide
      rcases List.mem_cons.mp hEk with hq | hEk
      · rw [(Prod.mk.inj hq).2]; decide
      exact absurd hEk List.not_mem_nil
    exact ⟨k, b, q, up2 o 0 0 k, fun sz => w_size_t l D cI cZ cJ xCc xGo xFo xPk xSk xAi xSh xJo xo sz gGo gFo gPk qPk gSk gAi gSh gJo q p1 hltr E k hEk e1, e2, rfl, fun hk0 => absurd hk0 hk, h.thr k⟩
  · exact ⟨0, r, (vp_updL q (0 : Int32).toNatClampNeg (r.toInt64)), o', fun sz => w_size_r l D cI cZ cJ xCc xGo xFo xPk xSk xAi xSh xJo xo sz gGo gFo gPk qPk gSk gAi gSh gJo q p1 r  e1, e2, e3, fun _ => if_pos rfl, e4⟩
set_option maxRecDepth 20000 in
theorem g_at {l : Launch} (hltr : l.stackTraces = false) {D : va_G} {cI cZ cJ : ClassId} {xCc : Nat} {xGo : Nat → Nat} {xFo : Nat → Nat} {xPk : Nat → Nat} {xSk : Nat → Nat} {xAi : Nat → Nat} {xSh : Nat → Nat} {xJo : Nat → Nat} {xo : Nat} {gGo : St} {gFo : St} {gPk : St} {qPk : Int64} {gSk : St} {gAi : St} {gSh : St} {gJo : St} {q : Nat → Int64} {o : St} (h : INV gGo gFo gPk qPk gSk gAi gSh gJo o) (p1 : Int32) (p2 : Int32) : ∃ (k : Int32) (b : Int32) (q1 : Nat → Int64) (o1 : St), (∀ sz, MW l y_La_at b_La_at 5 [(0, 10, 13, 21), (0, 10, 17, 13)] rm_La_at D (TYS cI cZ cJ) [.ref xCc, .int p1, .int p2, .ref xo] (wCc xCc cI cZ xGo xFo xPk xSk xAi xSh xJo gGo gFo gPk qPk gSk gAi gSh gJo ++ ([(xo, .inl (cJ, 1, .inr (.inl q)))] : va_W)) sz k (wCc xCc cI cZ xGo xFo xPk xSk xAi xSh xJo gGo gFo gPk qPk gSk gAi gSh gJo ++ ([(xo, .inl (cJ, 1, .inr (.inl q1)))] : va_W))) ∧ f_Mo_at o p1 p2 = some (b, o1) ∧ o1 0 0 = k ∧ (k = 0 → q1 (0 : Int32).toNatClampNeg = b.toInt64) ∧ INV gGo gFo gPk qPk gSk gAi gSh gJo o1 := by
  rcases op_at h p1 p2 with ⟨E, k, b, hEk, e1, e2⟩ | ⟨r, o', e1, e2, e3, e4⟩
  · have hk : ¬ k = 0 := by
      rcases List.mem_cons.mp hEk with hq | hEk
      · rw [(Prod.mk.inj hq).2]; decide
      rcases List.mem_cons.mp hEk with hq | hEk
      · rw [(Prod.mk.inj hq).2]; decide
      exact absurd hEk List.not_mem_nil
    exact ⟨k, b, q, up2 o 0 0 k, fun sz => w_at_t l D cI cZ cJ xCc xGo xFo xPk xSk xAi xSh xJo xo sz gGo gFo gPk qPk gSk gAi gSh gJo q p1 p2 hltr E k hEk e1, e2, rfl, fun hk0 => absurd hk0 hk, h.thr k⟩
  · exact ⟨0, r, (vp_updL q (0 : Int32).toNatClampNeg (r.toInt64)), o', fun sz => w_at_r l D cI cZ cJ xCc xGo xFo xPk xSk xAi xSh xJo xo sz gGo gFo gPk qPk gSk gAi gSh gJo q p1 p2 r  e1, e2, e3, fun _ => if_pos rfl, e4⟩
set_option maxRecDepth 20000 in
theorem g_crate {l : Launch} (hltr : l.stackTraces = false) {D : va_G} {cI cZ cJ : ClassId} {xCc : Nat} {xGo : Nat → Nat} {xFo : Nat → Nat} {xPk : Nat → Nat} {xSk : Nat → Nat} {xAi : Nat → Nat} {xSh : Nat → Nat} {xJo : Nat → Nat} {xo : Nat} {gGo : St} {gFo : St} {gPk : St} {qPk : Int64} {gSk : St} {gAi : St} {gSh : St} {gJo : St} {q : Nat → Int64} {o : St} (h : INV gGo gFo gPk qPk gSk gAi gSh gJo o) (p1 : Int32) (p2 : Int32) (p3 : Int32) : ∃ (k : Int32) (b : Int32) (gSk1 : St) (q1 : Nat → Int64) (o1 : St), (∀ sz, MW l y_La_crate b_La_crate 6 [(0, 12, 15, 13), (0, 12, 19, 15)] rm_La_crate D (TYS cI cZ cJ) [.ref xCc, .int p1, .int p2, .int p3, .ref xo] (wCc xCc cI cZ xGo xFo xPk xSk xAi xSh xJo gGo gFo gPk qPk gSk gAi gSh gJo ++ ([(xo, .inl (cJ, 1, .inr (.inl q)))] : va_W)) sz k (wCc xCc cI cZ xGo xFo xPk xSk xAi xSh xJo gGo gFo gPk qPk gSk1 gAi gSh gJo ++ ([(xo, .inl (cJ, 1, .inr (.inl q1)))] : va_W))) ∧ f_Mo_crate o p1 p2 p3 = some (b, o1) ∧ o1 0 0 = k ∧ (k = 0 → q1 (0 : Int32).toNatClampNeg = b.toInt64) ∧ INV gGo gFo gPk qPk gSk1 gAi gSh gJo o1 := by
  rcases op_crate h p1 p2 p3 with ⟨E, k, b, hEk, e1, e2⟩ | ⟨r, x, o', e1, e2, e3, e4⟩
  · have hk : ¬ k = 0 := by
      rcases List.mem_cons.mp hEk with hq | hEk
      · rw [(Prod.mk.inj hq).2]; decide
      rcases List.mem_cons.mp hEk with hq | hEk
      · rw [(Prod.mk.inj hq).2]; decide
      exact absurd hEk List.not_mem_nil
    exact ⟨k, b, gSk, q, up2 o 0 0 k, fun sz => w_crate_t l D cI cZ cJ xCc xGo xFo xPk xSk xAi xSh xJo xo sz gGo gFo gPk qPk gSk gAi gSh gJo q p1 p2 p3 hltr E k hEk e1, e2, rfl, fun hk0 => absurd hk0 hk, h.thr k⟩
  · exact ⟨0, r, x, (vp_updL q (0 : Int32).toNatClampNeg (r.toInt64)), o', fun sz => w_crate_r l D cI cZ cJ xCc xGo xFo xPk xSk xAi xSh xJo xo sz gGo gFo gPk qPk gSk gAi gSh gJo q p1 p2 p3 r x e1, e2, e3, fun _ => if_pos rfl, e4⟩
set_option maxRecDepth 20000 in
theorem g_match {l : Launch} (hltr : l.stackTraces = false) {D : va_G} {cI cZ cJ : ClassId} {xCc : Nat} {xGo : Nat → Nat} {xFo : Nat → Nat} {xPk : Nat → Nat} {xSk : Nat → Nat} {xAi : Nat → Nat} {xSh : Nat → Nat} {xJo : Nat → Nat} {xo : Nat} {gGo : St} {gFo : St} {gPk : St} {qPk : Int64} {gSk : St} {gAi : St} {gSh : St} {gJo : St} {q : Nat → Int64} {o : St} (h : INV gGo gFo gPk qPk gSk gAi gSh gJo o)  : ∃ (k : Int32) (b : Int32) (gSk1 : St) (q1 : Nat → Int64) (o1 : St), (∀ sz, MW l y_La_match b_La_match 3 [(0, 8, 11, 13)] rm_La_match D (TYS cI cZ cJ) [.ref xCc, .ref xo] (wCc xCc cI cZ xGo xFo xPk xSk xAi xSh xJo gGo gFo gPk qPk gSk gAi gSh gJo ++ ([(xo, .inl (cJ, 1, .inr (.inl q)))] : va_W)) sz k (wCc xCc cI cZ xGo xFo xPk xSk xAi xSh xJo gGo gFo gPk qPk gSk1 gAi gSh gJo ++ ([(xo, .inl (cJ, 1, .inr (.inl q1)))] : va_W))) ∧ f_Mo_match o = some (b, o1) ∧ o1 0 0 = k ∧ (k = 0 → q1 (0 : Int32).toNatClampNeg = b.toInt64) ∧ INV gGo gFo gPk qPk gSk1 gAi gSh gJo o1 := by
  rcases op_match h  with ⟨E, k, b, hEk, e1, e2⟩ | ⟨r, x, o', e1, e2, e3, e4⟩
  · have hk : ¬ k = 0 := by
      rcases List.mem_cons.mp hEk with hq | hEk
      · rw [(Prod.mk.inj hq).2]; decide
      exact absurd hEk List.not_mem_nil
    exact ⟨k, b, gSk, q, up2 o 0 0 k, fun sz => w_match_t l D cI cZ cJ xCc xGo xFo xPk xSk xAi xSh xJo xo sz gGo gFo gPk qPk gSk gAi gSh gJo q  hltr E k hEk e1, e2, rfl, fun hk0 => absurd hk0 hk, h.thr k⟩
  · exact ⟨0, r, x, (vp_updL q (0 : Int32).toNatClampNeg (r.toInt64)), o', fun sz => w_match_r l D cI cZ cJ xCc xGo xFo xPk xSk xAi xSh xJo xo sz gGo gFo gPk qPk gSk gAi gSh gJo q  r x e1, e2, e3, fun _ => if_pos rfl, e4⟩
set_option maxRecDepth 20000 in
theorem g_free {l : Launch} (hltr : l.stackTraces = false) {D : va_G} {cI cZ cJ : ClassId} {xCc : Nat} {xGo : Nat → Nat} {xFo : Nat → Nat} {xPk : Nat → Nat} {xSk : Nat → Nat} {xAi : Nat → Nat} {xSh : Nat → Nat} {xJo : Nat → Nat} {xo : Nat} {gGo : St} {gFo : St} {gPk : St} {qPk : Int64} {gSk : St} {gAi : St} {gSh : St} {gJo : St} {q : Nat → Int64} {o : St} (h : INV gGo gFo gPk qPk gSk gAi gSh gJo o) (p1 : Int32) : ∃ (k : Int32) (b : Int32) (gSk1 : St) (q1 : Nat → Int64) (o1 : St), (∀ sz, MW l y_La_free b_La_free 4 [(0, 16, 19, 21)] rm_La_free D (TYS cI cZ cJ) [.ref xCc, .int p1, .ref xo] (wCc xCc cI cZ xGo xFo xPk xSk xAi xSh xJo gGo gFo gPk qPk gSk gAi gSh gJo ++ ([(xo, .inl (cJ, 1, .inr (.inl q)))] : va_W)) sz k (wCc xCc cI cZ xGo xFo xPk xSk xAi xSh xJo gGo gFo gPk qPk gSk1 gAi gSh gJo ++ ([(xo, .inl (cJ, 1, .inr (.inl q1)))] : va_W))) ∧ f_Mo_free o p1 = some (b, o1) ∧ o1 0 0 = k ∧ (k = 0 → q1 (0 : Int32).toNatClampNeg = bz b) ∧ INV gGo gFo gPk qPk gSk1 gAi gSh gJo o1 := by
  rcases op_free h p1 with ⟨E, k, b, hEk, e1, e2⟩ | ⟨r, x, o', e1, e2, e3, e4⟩
  · have hk : ¬ k = 0 := by
      rcases List.mem_cons.mp hEk with hq | hEk
      · rw [(Prod.mk.inj hq).2]; decide
      exact absurd hEk List.not_mem_nil
    exact ⟨k, b, gSk, q, up2 o 0 0 k, fun sz => w_free_t l D cI cZ cJ xCc xGo xFo xPk xSk xAi xSh xJo xo sz gGo gFo gPk qPk gSk gAi gSh gJo q p1 hltr E k hEk e1, e2, rfl, fun hk0 => absurd hk0 hk, h.thr k⟩
  · exact ⟨0, r, x, (vp_updL q (0 : Int32).toNatClampNeg (bz r)), o', fun sz => w_free_r l D cI cZ cJ xCc xGo xFo xPk xSk xAi xSh xJo xo sz gGo gFo gPk qPk gSk gAi gSh gJo q p1 r x e1, e2, e3, fun _ => if_pos rfl, e4⟩
set_option maxRecDepth 20000 in
theorem g_split {l : Launch} (hltr : l.stackTraces = false) {D : va_G} {cI cZ cJ : ClassId} {xCc : Nat} {xGo : Nat → Nat} {xFo : Nat → Nat} {xPk : Nat → Nat} {xSk : Nat → Nat} {xAi : Nat → Nat} {xSh : Nat → Nat} {xJo : Nat → Nat} {xo : Nat} {gGo : St} {gFo : St} {gPk : St} {qPk : Int64} {gSk : St} {gAi : St} {gSh : St} {gJo : St} {q : Nat → Int64} {o : St} (h : INV gGo gFo gPk qPk gSk gAi gSh gJo o) (p1 : Int32) : ∃ (k : Int32) (b : Int32) (gGo1 : St) (q1 : Nat → Int64) (o1 : St), (∀ sz, MW l y_La_split b_La_split 4 [(0, 9, 12, 15)] rm_La_split D (TYS cI cZ cJ) [.ref xCc, .int p1, .ref xo] (wCc xCc cI cZ xGo xFo xPk xSk xAi xSh xJo gGo gFo gPk qPk gSk gAi gSh gJo ++ ([(xo, .inl (cJ, 1, .inr (.inl q)))] : va_W)) sz k (wCc xCc cI cZ xGo xFo xPk xSk xAi xSh xJo gGo1 gFo gPk qPk gSk gAi gSh gJo ++ ([(xo, .inl (cJ, 1, .inr (.inl q1)))] : va_W))) ∧ f_Mo_split o p1 = some (b, o1) ∧ o1 0 0 = k ∧ (k = 0 → q1 (0 : Int32).toNatClampNeg = b.toInt64) ∧ INV gGo1 gFo gPk qPk gSk gAi gSh gJo o1 := by
  rcases op_split h p1 with ⟨E, k, b, hEk, e1, e2⟩ | ⟨r, x, o', e1, e2, e3, e4⟩
  · have hk : ¬ k = 0 := by
      rcases List.mem_cons.mp hEk with hq | hEk
      · rw [(Prod.mk.inj hq).2]; decide
      exact absurd hEk List.not_mem_nil
    exact ⟨k, b, gGo, q, up2 o 0 0 k, fun sz => w_split_t l D cI cZ cJ xCc xGo xFo xPk xSk xAi xSh xJo xo sz gGo gFo gPk qPk gSk gAi gSh gJo q p1 hltr E k hEk e1, e2, rfl, fun hk0 => absurd hk0 hk, h.thr k⟩
  · exact ⟨0, r, x, (vp_updL q (0 : Int32).toNatClampNeg (r.toInt64)), o', fun sz => w_split_r l D cI cZ cJ xCc xGo xFo xPk xSk xAi xSh xJo xo sz gGo gFo gPk qPk gSk gAi gSh gJo q p1 r x e1, e2, e3, fun _ => if_pos rfl, e4⟩
set_option maxRecDepth 20000 in
theorem g_lag {l : Launch} (hltr : l.stackTraces = false) {D : va_G} {cI cZ cJ : ClassId} {xCc : Nat} {xGo : Nat → Nat} {xFo : Nat → Nat} {xPk : Nat → Nat} {xSk : Nat → Nat} {xAi : Nat → Nat} {xSh : Nat → Nat} {xJo : Nat → Nat} {xo : Nat} {gGo : St} {gFo : St} {gPk : St} {qPk : Int64} {gSk : St} {gAi : St} {gSh : St} {gJo : St} {q : Nat → Int64} {o : St} (h : INV gGo gFo gPk qPk gSk gAi gSh gJo o) (p1 : Int32) : ∃ (k : Int32) (b : Int32) (gAi1 : St) (q1 : Nat → Int64) (o1 : St), (∀ sz, MW l y_La_lag b_La_lag 4 [(0, 9, 12, 15)] rm_La_lag D (TYS cI cZ cJ) [.ref xCc, .int p1, .ref xo] (wCc xCc cI cZ xGo xFo xPk xSk xAi xSh xJo gGo gFo gPk qPk gSk gAi gSh gJo ++ ([(xo, .inl (cJ, 1, .inr (.inl q)))] : va_W)) sz k (wCc xCc cI cZ xGo xFo xPk xSk xAi xSh xJo gGo gFo gPk qPk gSk gAi1 gSh gJo ++ ([(xo, .inl (cJ, 1, .inr (.inl q1)))] : va_W))) ∧ f_Mo_lag o p1 = some (b, o1) ∧ o1 0 0 = k ∧ (k = 0 → q1 (0 : Int32).toNatClampNeg = b.toInt64) ∧ INV gGo gFo gPk qPk gSk gAi1 gSh gJo o1 := by
  rcases op_lag h p1 with ⟨E, k, b, hEk, e1, e2⟩ | ⟨r, x, o', e1, e2, e3, e4⟩
  · have hk : ¬ k = 0 := by
      rcases List.mem_cons.mp hEk with hq | hEk
      · rw [(Prod.mk.inj hq).2]; decide
      exact absurd hEk List.not_mem_nil
    exact ⟨k, b, gAi, q, up2 o 0 0 k, fun sz => w_lag_t l D cI cZ cJ xCc xGo xFo xPk xSk xAi xSh xJo xo sz gGo gFo gPk qPk gSk gAi gSh gJo q p1 hltr E k hEk e1, e2, rfl, fun hk0 => absurd hk0 hk, h.thr k⟩
  · exact ⟨0, r, x, (vp_updL q (0 : Int32).toNatClampNeg (r.toInt64)), o', fun sz => w_lag_r l D cI cZ cJ xCc xGo xFo xPk xSk xAi xSh xJo xo sz gGo gFo gPk qPk gSk gAi gSh gJo q p1 r x e1, e2, e3, fun _ => if_pos rfl, e4⟩
set_option maxRecDepth 20000 in
theorem g_climate {l : Launch} (hltr : l.stackTraces = false) {D : va_G} {cI cZ cJ : ClassId} {xCc : Nat} {xGo : Nat → Nat} {xFo : Nat → Nat} {xPk : Nat → Nat} {xSk : Nat → Nat} {xAi : Nat → Nat} {xSh : Nat → Nat} {xJo : Nat → Nat} {xo : Nat} {gGo : St} {gFo : St} {gPk : St} {qPk : Int64} {gSk : St} {gAi : St} {gSh : St} {gJo : St} {q : Nat → Int64} {o : St} (h : INV gGo gFo gPk qPk gSk gAi gSh gJo o) (p1 : Int32) : ∃ (k : Int32) (b : Int32) (gAi1 : St) (q1 : Nat → Int64) (o1 : St), (∀ sz, MW l y_La_climate b_La_climate 4 [(0, 9, 12, 13), (0, 9, 15, 15)] rm_La_climate D (TYS cI cZ cJ) [.ref xCc, .int p1, .ref xo] (wCc xCc cI cZ xGo xFo xPk xSk xAi xSh xJo gGo gFo gPk qPk gSk gAi gSh gJo ++ ([(xo, .inl (cJ, 1, .inr (.inl q)))] : va_W)) sz k (wCc xCc cI cZ xGo xFo xPk xSk xAi xSh xJo gGo gFo gPk qPk gSk gAi1 gSh gJo ++ ([(xo, .inl (cJ, 1, .inr (.inl q1)))] : va_W))) ∧ f_Mo_climate o p1 = some (b, o1) ∧ o1 0 0 = k ∧ (k = 0 → q1 (0 : Int32).toNatClampNeg = b.toInt64) ∧ INV gGo gFo gPk qPk gSk gAi1 gSh gJo o1 := by
  rcases op_climate h p1 with ⟨E, k, b, hEk, e1, e2⟩ | ⟨r, x, o', e1, e2, e3, e4⟩
  · have hk : ¬ k = 0 := by
      rcases List.mem_cons.mp hEk with hq | hEk
      · rw [(Prod.mk.inj hq).2]; decide
      rcases List.mem_cons.mp hEk with hq | hEk
      · rw [(Prod.mk.inj hq).2]; decide
      exact absurd hEk List.not_mem_nil
    exact ⟨k, b, gAi, q, up2 o 0 0 k, fun sz => w_climate_t l D cI cZ cJ xCc xGo xFo xPk xSk xAi xSh xJo xo sz gGo gFo gPk qPk gSk gAi gSh gJo q p1 hltr E k hEk e1, e2, rfl, fun hk0 => absurd hk0 hk, h.thr k⟩
  · exact ⟨0, r, x, (vp_updL q (0 : Int32).toNatClampNeg (r.toInt64)), o', fun sz => w_climate_r l D cI cZ cJ xCc xGo xFo xPk xSk xAi xSh xJo xo sz gGo gFo gPk qPk gSk gAi gSh gJo q p1 r x e1, e2, e3, fun _ => if_pos rfl, e4⟩
set_option maxRecDepth 20000 in
theorem g_inside {l : Launch} (hltr : l.stackTraces = false) {D : va_G} {cI cZ cJ : ClassId} {xCc : Nat} {xGo : Nat → Nat} {xFo : Nat → Nat} {xPk : Nat → Nat} {xSk : Nat → Nat} {xAi : Nat → Nat} {xSh : Nat → Nat} {xJo : Nat → Nat} {xo : Nat} {gGo : St} {gFo : St} {gPk : St} {qPk : Int64} {gSk : St} {gAi : St} {gSh : St} {gJo : St} {q : Nat → Int64} {o : St} (h : INV gGo gFo gPk qPk gSk gAi gSh gJo o) (p1 : Int32) : ∃ (k : Int32) (b : Int32) (q1 : Nat → Int64) (o1 : St), (∀ sz, MW l y_La_inside b_La_inside 4 [(0, 9, 12, 21)] rm_La_inside D (TYS cI cZ cJ) [.ref xCc, .int p1, .ref xo] (wCc xCc cI cZ xGo xFo xPk xSk xAi xSh xJo gGo gFo gPk qPk gSk gAi gSh gJo ++ ([(xo, .inl (cJ, 1, .inr (.inl q)))] : va_W)) sz k (wCc xCc cI cZ xGo xFo xPk xSk xAi xSh xJo gGo gFo gPk qPk gSk gAi gSh gJo ++ ([(xo, .inl (cJ, 1, .inr (.inl q1)))] : va_W))) ∧ f_Mo_inside o p1 = some (b, o1) ∧ o1 0 0 = k ∧ (k = 0 → q1 (0 : Int32).toNatClampNeg = b.toInt64) ∧ INV gGo gFo gPk qPk gSk gAi gSh gJo o1 := by
  rcases op_inside h p1 with ⟨E, k, b, hEk, e1, e2⟩ | ⟨r, o', e1, e2, e3, e4⟩
  · have hk : ¬ k = 0 := by
      rcases List.mem_cons.mp hEk with hq | hEk
      · rw [(Prod.mk.inj hq).2]; decide
      exact absurd hEk List.not_mem_nil
    exact ⟨k, b, q, up2 o 0 0 k, fun sz => w_inside_t l D cI cZ cJ xCc xGo xFo xPk xSk xAi xSh xJo xo sz gGo gFo gPk qPk gSk gAi gSh gJo q p1 hltr E k hEk e1, e2, rfl, fun hk0 => absurd hk0 hk, h.thr k⟩
  · exact ⟨0, r, (vp_updL q (0 : Int32).toNatClampNeg (r.toInt64)), o', fun sz => w_inside_r l D cI cZ cJ xCc xGo xFo xPk xSk xAi xSh xJo xo sz gGo gFo gPk qPk gSk gAi gSh gJo q p1 r  e1, e2, e3, fun _ => if_pos rfl, e4⟩
set_option maxRecDepth 20000 in
theorem g_steady {l : Launch} (hltr : l.stackTraces = false) {D : va_G} {cI cZ cJ : ClassId} {xCc : Nat} {xGo : Nat → Nat} {xFo : Nat → Nat} {xPk : Nat → Nat} {xSk : Nat → Nat} {xAi : Nat → Nat} {xSh : Nat → Nat} {xJo : Nat → Nat} {xo : Nat} {gGo : St} {gFo : St} {gPk : St} {qPk : Int64} {gSk : St} {gAi : St} {gSh : St} {gJo : St} {q : Nat → Int64} {o : St} (h : INV gGo gFo gPk qPk gSk gAi gSh gJo o) (p1 : Int32) (p2 : Int32) : ∃ (k : Int32) (b : Int32) (q1 : Nat → Int64) (o1 : St), (∀ sz, MW l y_La_steady b_La_steady 5 [(0, 10, 13, 15)] rm_La_steady D (TYS cI cZ cJ) [.ref xCc, .int p1, .int p2, .ref xo] (wCc xCc cI cZ xGo xFo xPk xSk xAi xSh xJo gGo gFo gPk qPk gSk gAi gSh gJo ++ ([(xo, .inl (cJ, 1, .inr (.inl q)))] : va_W)) sz k (wCc xCc cI cZ xGo xFo xPk xSk xAi xSh xJo gGo gFo gPk qPk gSk gAi gSh gJo ++ ([(xo, .inl (cJ, 1, .inr (.inl q1)))] : va_W))) ∧ f_Mo_steady o p1 p2 = some (b, o1) ∧ o1 0 0 = k ∧ (k = 0 → q1 (0 : Int32).toNatClampNeg = b.toInt64) ∧ INV gGo gFo gPk qPk gSk gAi gSh gJo o1 := by
  rcases op_steady h p1 p2 with ⟨E, k, b, hEk, e1, e2⟩ | ⟨r, o', e1, e2, e3, e4⟩
  · have hk : ¬ k = 0 := by
      rcases List.mem_cons.mp hEk with hq | hEk
      · rw [(Prod.mk.inj hq).2]; decide
      exact absurd hEk List.not_mem_nil
    exact ⟨k, b, q, up2 o 0 0 k, fun sz => w_steady_t l D cI cZ cJ xCc xGo xFo xPk xSk xAi xSh xJo xo sz gGo gFo gPk qPk gSk gAi gSh gJo q p1 p2 hltr E k hEk e1, e2, rfl, fun hk0 => absurd hk0 hk, h.thr k⟩
  · exact ⟨0, r, (vp_updL q (0 : Int32).toNatClampNeg (r.toInt64)), o', fun sz => w_steady_r l D cI cZ cJ xCc xGo xFo xPk xSk xAi xSh xJo xo sz gGo gFo gPk qPk gSk gAi gSh gJo q p1 p2 r  e1, e2, e3, fun _ => if_pos rfl, e4⟩
set_option maxRecDepth 20000 in
theorem g_limit {l : Launch} (hltr : l.stackTraces = false) {D : va_G} {cI cZ cJ : ClassId} {xCc : Nat} {xGo : Nat → Nat} {xFo : Nat → Nat} {xPk : Nat → Nat} {xSk : Nat → Nat} {xAi : Nat → Nat} {xSh : Nat → Nat} {xJo : Nat → Nat} {xo : Nat} {gGo : St} {gFo : St} {gPk : St} {qPk : Int64} {gSk : St} {gAi : St} {gSh : St} {gJo : St} {q : Nat → Int64} {o : St} (h : INV gGo gFo gPk qPk gSk gAi gSh gJo o) (p1 : Int32) (p2 : Int32) : ∃ (k : Int32) (gSh1 : St) (q1 : Nat → Int64) (o1 : St), (∀ sz, MW l y_La_limit b_La_limit 4 [(0, 6, 9, 15)] rm_La_limit D (TYS cI cZ cJ) [.ref xCc, .int p1, .int p2] (wCc xCc cI cZ xGo xFo xPk xSk xAi xSh xJo gGo gFo gPk qPk gSk gAi gSh gJo ++ ([(xo, .inl (cJ, 1, .inr (.inl q)))] : va_W)) sz k (wCc xCc cI cZ xGo xFo xPk xSk xAi xSh xJo gGo gFo gPk qPk gSk gAi gSh1 gJo ++ ([(xo, .inl (cJ, 1, .inr (.inl q1)))] : va_W))) ∧ f_Mo_limit o p1 p2 = some o1 ∧ o1 0 0 = k ∧ INV gGo gFo gPk qPk gSk gAi gSh1 gJo o1 := by
  rcases op_limit h p1 p2 with ⟨E, k, hEk, e1, e2⟩ | ⟨x, o', e1, e2, e3, e4⟩
  · have hk : ¬ k = 0 := by
      rcases List.mem_cons.mp hEk with hq | hEk
      · rw [(Prod.mk.inj hq).2]; decide
      exact absurd hEk List.not_mem_nil
    exact ⟨k, gSh, q, up2 o 0 0 k, fun sz => w_limit_t l D cI cZ cJ xCc xGo xFo xPk xSk xAi xSh xJo xo sz gGo gFo gPk qPk gSk gAi gSh gJo q p1 p2 hltr E k hEk e1, e2, rfl, h.thr k⟩
  · exact ⟨0, x, q, o', fun sz => w_limit_r l D cI cZ cJ xCc xGo xFo xPk xSk xAi xSh xJo xo sz gGo gFo gPk qPk gSk gAi gSh gJo q p1 p2  x e1, e2, e3, e4⟩
set_option maxRecDepth 20000 in
theorem g_shock {l : Launch} (hltr : l.stackTraces = false) {D : va_G} {cI cZ cJ : ClassId} {xCc : Nat} {xGo : Nat → Nat} {xFo : Nat → Nat} {xPk : Nat → Nat} {xSk : Nat → Nat} {xAi : Nat → Nat} {xSh : Nat → Nat} {xJo : Nat → Nat} {xo : Nat} {gGo : St} {gFo : St} {gPk : St} {qPk : Int64} {gSk : St} {gAi : St} {gSh : St} {gJo : St} {q : Nat → Int64} {o : St} (h : INV gGo gFo gPk qPk gSk gAi gSh gJo o) (p1 : Int32) (p2 : Int32) : ∃ (k : Int32) (b : Int32) (gSh1 : St) (q1 : Nat → Int64) (o1 : St), (∀ sz, MW l y_La_shock b_La_shock 5 [(0, 17, 20, 15)] rm_La_shock D (TYS cI cZ cJ) [.ref xCc, .int p1, .int p2, .ref xo] (wCc xCc cI cZ xGo xFo xPk xSk xAi xSh xJo gGo gFo gPk qPk gSk gAi gSh gJo ++ ([(xo, .inl (cJ, 1, .inr (.inl q)))] : va_W)) sz k (wCc xCc cI cZ xGo xFo xPk xSk xAi xSh xJo gGo gFo gPk qPk gSk gAi gSh1 gJo ++ ([(xo, .inl (cJ, 1, .inr (.inl q1)))] : va_W))) ∧ f_Mo_shock o p1 p2 = some (b, o1) ∧ o1 0 0 = k ∧ (k = 0 → q1 (0 : Int32).toNatClampNeg = bz b) ∧ INV gGo gFo gPk qPk gSk gAi gSh1 gJo o1 := by
  rcases op_shock h p1 p2 with ⟨E, k, b, hEk, e1, e2⟩ | ⟨r, x, o', e1, e2, e3, e4⟩
  · have hk : ¬ k = 0 := by
      rcases List.mem_cons.mp hEk with hq | hEk
      · rw [(Prod.mk.inj hq).2]; decide
      exact absurd hEk List.not_mem_nil
    exact ⟨k, b, gSh, q, up2 o 0 0 k, fun sz => w_shock_t l D cI cZ cJ xCc xGo xFo xPk xSk xAi xSh xJo xo sz gGo gFo gPk qPk gSk gAi gSh gJo q p1 p2 hltr E k hEk e1, e2, rfl, fun hk0 => absurd hk0 hk, h.thr k⟩
  · exact ⟨0, r, x, (vp_updL q (0 : Int32).toNatClampNeg (bz r)), o', fun sz => w_shock_r l D cI cZ cJ xCc xGo xFo xPk xSk xAi xSh xJo xo sz gGo gFo gPk qPk gSk gAi gSh gJo q p1 p2 r x e1, e2, e3, fun _ => if_pos rfl, e4⟩
set_option maxRecDepth 20000 in
theorem g_route {l : Launch} (hltr : l.stackTraces = false) {D : va_G} {cI cZ cJ : ClassId} {xCc : Nat} {xGo : Nat → Nat} {xFo : Nat → Nat} {xPk : Nat → Nat} {xSk : Nat → Nat} {xAi : Nat → Nat} {xSh : Nat → Nat} {xJo : Nat → Nat} {xo : Nat} {gGo : St} {gFo : St} {gPk : St} {qPk : Int64} {gSk : St} {gAi : St} {gSh : St} {gJo : St} {q : Nat → Int64} {o : St} (h : INV gGo gFo gPk qPk gSk gAi gSh gJo o) (p1 : Int32) (p2 : Int32) : ∃ (k : Int32) (b : Int32) (gJo1 : St) (q1 : Nat → Int64) (o1 : St), (∀ sz, MW l y_La_route b_La_route 5 [(0, 10, 13, 15)] rm_La_route D (TYS cI cZ cJ) [.ref xCc, .int p1, .int p2, .ref xo] (wCc xCc cI cZ xGo xFo xPk xSk xAi xSh xJo gGo gFo gPk qPk gSk gAi gSh gJo ++ ([(xo, .inl (cJ, 1, .inr (.inl q)))] : va_W)) sz k (wCc xCc cI cZ xGo xFo xPk xSk xAi xSh xJo gGo gFo gPk qPk gSk gAi gSh gJo1 ++ ([(xo, .inl (cJ, 1, .inr (.inl q1)))] : va_W))) ∧ f_Mo_route o p1 p2 = some (b, o1) ∧ o1 0 0 = k ∧ (k = 0 → q1 (0 : Int32).toNatClampNeg = b.toInt64) ∧ INV gGo gFo gPk qPk gSk gAi gSh gJo1 o1 := by
  rcases op_route h p1 p2 with ⟨E, k, b, hEk, e1, e2⟩ | ⟨r, x, o', e1, e2, e3, e4⟩
  · have hk : ¬ k = 0 := by
      rcases List.mem_cons.mp hEk with hq | hEk
      · rw [(Prod.mk.inj hq).2]; decide
      exact absurd hEk List.not_mem_nil
    exact ⟨k, b, gJo, q, up2 o 0 0 k, fun sz => w_route_t l D cI cZ cJ xCc xGo xFo xPk xSk xAi xSh xJo xo sz gGo gFo gPk qPk gSk gAi gSh gJo q p1 p2 hltr E k hEk e1, e2, rfl, fun hk0 => absurd hk0 hk, h.thr k⟩
  · exact ⟨0, r, x, (vp_updL q (0 : Int32).toNatClampNeg (r.toInt64)), o', fun sz => w_route_r l D cI cZ cJ xCc xGo xFo xPk xSk xAi xSh xJo xo sz gGo gFo gPk qPk gSk gAi gSh gJo q p1 p2 r x e1, e2, e3, fun _ => if_pos rfl, e4⟩
set_option maxRecDepth 20000 in
theorem g_drop {l : Launch} (hltr : l.stackTraces = false) {D : va_G} {cI cZ cJ : ClassId} {xCc : Nat} {xGo : Nat → Nat} {xFo : Nat → Nat} {xPk : Nat → Nat} {xSk : Nat → Nat} {xAi : Nat → Nat} {xSh : Nat → Nat} {xJo : Nat → Nat} {xo : Nat} {gGo : St} {gFo : St} {gPk : St} {qPk : Int64} {gSk : St} {gAi : St} {gSh : St} {gJo : St} {q : Nat → Int64} {o : St} (h : INV gGo gFo gPk qPk gSk gAi gSh gJo o) (p1 : Int32) : ∃ (k : Int32) (b : Int32) (q1 : Nat → Int64) (o1 : St), (∀ sz, MW l y_La_drop b_La_drop 4 [(0, 9, 12, 21)] rm_La_drop D (TYS cI cZ cJ) [.ref xCc, .int p1, .ref xo] (wCc xCc cI cZ xGo xFo xPk xSk xAi xSh xJo gGo gFo gPk qPk gSk gAi gSh gJo ++ ([(xo, .inl (cJ, 1, .inr (.inl q)))] : va_W)) sz k (wCc xCc cI cZ xGo xFo xPk xSk xAi xSh xJo gGo gFo gPk qPk gSk gAi gSh gJo ++ ([(xo, .inl (cJ, 1, .inr (.inl q1)))] : va_W))) ∧ f_Mo_drop o p1 = some (b, o1) ∧ o1 0 0 = k ∧ (k = 0 → q1 (0 : Int32).toNatClampNeg = b.toInt64) ∧ INV gGo gFo gPk qPk gSk gAi gSh gJo o1 := by
  rcases op_drop h p1 with ⟨E, k, b, hEk, e1, e2⟩ | ⟨r, o', e1, e2, e3, e4⟩
  · have hk : ¬ k = 0 := by
      rcases List.mem_cons.mp hEk with hq | hEk
      · rw [(Prod.mk.inj hq).2]; decide
      exact absurd hEk List.not_mem_nil
    exact ⟨k, b, q, up2 o 0 0 k, fun sz => w_drop_t l D cI cZ cJ xCc xGo xFo xPk xSk xAi xSh xJo xo sz gGo gFo gPk qPk gSk gAi gSh gJo q p1 hltr E k hEk e1, e2, rfl, fun hk0 => absurd hk0 hk, h.thr k⟩
  · exact ⟨0, r, (vp_updL q (0 : Int32).toNatClampNeg (r.toInt64)), o', fun sz => w_drop_r l D cI cZ cJ xCc xGo xFo xPk xSk xAi xSh xJo xo sz gGo gFo gPk qPk gSk gAi gSh gJo q p1 r  e1, e2, e3, fun _ => if_pos rfl, e4⟩
set_option maxRecDepth 20000 in
theorem g_count {l : Launch} (hltr : l.stackTraces = false) {D : va_G} {cI cZ cJ : ClassId} {xCc : Nat} {xGo : Nat → Nat} {xFo : Nat → Nat} {xPk : Nat → Nat} {xSk : Nat → Nat} {xAi : Nat → Nat} {xSh : Nat → Nat} {xJo : Nat → Nat} {xo : Nat} {gGo : St} {gFo : St} {gPk : St} {qPk : Int64} {gSk : St} {gAi : St} {gSh : St} {gJo : St} {q : Nat → Int64} {o : St} (h : INV gGo gFo gPk qPk gSk gAi gSh gJo o) (p1 : Int32) : ∃ (k : Int32) (b : Int32) (q1 : Nat → Int64) (o1 : St), (∀ sz, MW l y_La_count b_La_count 4 [(0, 9, 12, 21)] rm_La_count D (TYS cI cZ cJ) [.ref xCc, .int p1, .ref xo] (wCc xCc cI cZ xGo xFo xPk xSk xAi xSh xJo gGo gFo gPk qPk gSk gAi gSh gJo ++ ([(xo, .inl (cJ, 1, .inr (.inl q)))] : va_W)) sz k (wCc xCc cI cZ xGo xFo xPk xSk xAi xSh xJo gGo gFo gPk qPk gSk gAi gSh gJo ++ ([(xo, .inl (cJ, 1, .inr (.inl q1)))] : va_W))) ∧ f_Mo_count o p1 = some (b, o1) ∧ o1 0 0 = k ∧ (k = 0 → q1 (0 : Int32).toNatClampNeg = b.toInt64) ∧ INV gGo gFo gPk qPk gSk gAi gSh gJo o1 := by
  rcases op_count h p1 with ⟨E, k, b, hEk, e1, e2⟩ | ⟨r, o', e1, e2, e3, e4⟩
  · have hk : ¬ k = 0 := by
      rcases List.mem_cons.mp hEk with hq | hEk
      · rw [(Prod.mk.inj hq).2]; decide
      exact absurd hEk List.not_mem_nil
    exact ⟨k, b, q, up2 o 0 0 k, fun sz => w_count_t l D cI cZ cJ xCc xGo xFo xPk xSk xAi xSh xJo xo sz gGo gFo gPk qPk gSk gAi gSh gJo q p1 hltr E k hEk e1, e2, rfl, fun hk0 => absurd hk0 hk, h.thr k⟩
  · exact ⟨0, r, (vp_updL q (0 : Int32).toNatClampNeg (r.toInt64)), o', fun sz => w_count_r l D cI cZ cJ xCc xGo xFo xPk xSk xAi xSh xJo xo sz gGo gFo gPk qPk gSk gAi gSh gJo q p1 r  e1, e2, e3, fun _ => if_pos rfl, e4⟩
