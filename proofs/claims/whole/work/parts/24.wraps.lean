
/-- a body with a table, that never throws -/
theorem q_ofWH {l : Launch} {y : MethodName} {ws ws' : List Cond} {rm : Room} {Pc : Array Value → State → Prop} {Qc : Array Value → State → Outcome → State → Prop} {mc ms : Nat} {free : Addr → Prop} {cc : ByteArray} {maxL : Nat} {ret : Option FieldType} {hh : List (Nat × Nat × Nat × Nat)}
    (hy : plainName y.cls = true) (hw : ws = Cond.codeWith y cc maxL ret hh :: ws')
    (body : ∀ p e s m args below meth c s₁, BodyLoose p l y (headSpec ws rm) cc maxL ret e s m args below meth c s₁ → c.maxLocals = maxL → c.exceptionTable.toList = tableOf hh → Pc args s →
      W p l e (headSpec ws rm).room s m args below meth c s.heap [] 0 0 (MQ below Qc args s mc ms free) (entryFrame m args maxL)) : Met l y ws rm Pc Qc mc ms free := by
  refine MetFree.of_bodyS (code := cc) (maxLocals := maxL) (ret := ret) hy ?_ ?_
  · intro args s m h hn
    obtain ⟨m9, meth, c, hn9, h1, h2, h3, h4, -, h5, h6, -⟩ := Cond.codeWith_spec (atoms_spec (ws := ws) h _ (by rw [hw]; exact List.mem_cons_self))
    cases hn.symm.trans hn9
    exact ⟨meth, c, h1, h2, h3, h4, h5, h6⟩
  · intro p e s m args below meth c s₁ B hml hP _
    have hh0 : s₁.heap = s.heap := by rw [B.state]; rfl
    obtain ⟨t, a1, o, b1, b2, b3⟩ := body p e s m args below meth c s₁ B hml (vx_table (x := y) B (atoms_spec (ws := ws) B.pre _ (by rw [hw]; exact List.mem_cons_self))) hP s₁ hh0 (Stand.of_body B)
    exact ⟨t, o, a1, b1, b2, ⟨b3.1, b3.2⟩⟩
section Q7
variable {p : Program} {l : Launch} {e : Env} {R : Room} {s : State} {m : MethodId} {args : Array Value} {below : List Frame} {meth : Method} {c : Code} {H : Heap} {locs : List Loc} {cells slots : Nat} {Q : State → Prop}
variable {cc : ByteArray} {pc : Nat} {ls : Array Slot} {rest st0 : List Value} {D : va_G} {cl : List vw_C} {A A0 : Nat → Prop} {a : Array Value} {tys : List (ClassId × FieldType)} {H0 : Heap} {mc ms : Nat}
/-- a call that writes or throws; what is thrown is met here -/
theorem q_xci {post : Int32 → Unit → Prop} {exc : String → Prop} {ws wc wr : va_W} {w1 : Unit → va_W} (hr : vx_Run p l e R s m args below meth c H locs cells slots mc ms (F0 m pc ls st0) rest (va_Qi post (fun u t => va_P D cl (w1 u) t.heap ∧ va_D (va_A wc H.size) (w1 u)) (va_A wc H.size) a) (XC exc) (va_A wc H.size))
    (hP : va_P D cl ws H) (hD : va_D A0 ws) (hS : va_S A0 H0 H locs) (hA : ∀ q, H0.size ≤ q → A0 q) (isC isR : List Nat) (hC : isC.map (fun i => ws[i]?) = wc.map some) (hR : isR.map (fun i => ws[i]?) = wr.map some) (hn : va_nd isR = true) (hdis : ∀ i ∈ isR, i ∉ isC)
    (kx : ∀ (E : String) (ce : Cell) (q9 : Addr) (H1 : Heap) (locs1 : List Loc), exc E → va_P D cl ws H1 → va_D A0 ws → va_S A0 H0 H1 locs1 → H1[q9]? = some ce → ce.vm = .none → s.vm.findClass E = some ce.cls → vx_W p l e R s m args below meth c H1 locs1 (cells + mc) (slots + ms) Q (F0 m pc ls rest) q9)
    (kk : ∀ (r : Int32) (H1 : Heap) (locs1 : List Loc), post r () → va_P D cl (wr ++ w1 ()) H1 → va_D A0 (wr ++ w1 ()) → va_S A0 H0 H1 locs1 → W p l e R s m args below meth c H1 locs1 (cells + mc) (slots + ms) Q (F0 m (pc + 3) ls (.int r :: rest))) : W p l e R s m args below meth c H locs cells slots Q (F0 m pc ls st0) := by
  have hF : ∀ q, va_A wc H.size q → A0 q := va_free hD hS hA isC hC
  refine vx_calli hr hS (fun q _ h => hF q h) hF (fun q _ h => h.elim) (fun E ce q9 u t H1 locs1 ht hvm hw hB hz1 hk1 hS1 hce hcv hcl => ?_) (fun r u t H1 locs1 ht hvm hw hB hz1 hk1 hS1 => ?_)
  · exact kx E ce q9 H1 locs1 hB (hP.kept (fun k x hx => hk1 x.1 ((hP k x hx).lt) (fun h => h))) hD hS1 hce hcv hcl
  · obtain ⟨hP1, hD1⟩ := hB
    rw [ht] at hP1
    obtain ⟨hP2, hD2⟩ := va_join hP hD isC isR hC hR hn hdis hk1 hF hP1 hD1
    exact kk r H1 locs1 hw hP2 hD2 hS1
/-- a call that reads or throws; what is thrown is met here -/
theorem q_xcsi {post : Int32 → Prop} {exc : String → Prop} {ws : va_W} (hr : vx_Run p l e R s m args below meth c H locs cells slots mc ms (F0 m pc ls st0) rest (vp_Si post a) (XC exc) (fun _ => False))
    (hP : va_P D cl ws H) (hD : va_D A0 ws) (hS : va_S A0 H0 H locs)
    (kx : ∀ (E : String) (ce : Cell) (q9 : Addr) (H1 : Heap) (locs1 : List Loc), exc E → va_P D cl ws H1 → va_D A0 ws → va_S A0 H0 H1 locs1 → H1[q9]? = some ce → ce.vm = .none → s.vm.findClass E = some ce.cls → vx_W p l e R s m args below meth c H1 locs1 (cells + mc) (slots + ms) Q (F0 m pc ls rest) q9)
    (kk : ∀ (r : Int32), post r → W p l e R s m args below meth c H locs (cells + mc) (slots + ms) Q (F0 m (pc + 3) ls (.int r :: rest))) : W p l e R s m args below meth c H locs cells slots Q (F0 m pc ls st0) := by
  intro T hT X
  rcases hr T hT X with ⟨v, st₀, t, T', L, h0, X', hL, e1, e2, ⟨r, hv, hp, hh⟩, st⟩ | ⟨q, st₀, t, T', L, E, ce, h0, X', hL, e1, e2, ⟨u, hp, hb, hF⟩, hce, hcv, hcl, st⟩
  · cases hv
    obtain ⟨t2, a1, b1⟩ := kk r hp T' (by rw [e1, hh, h0]) (Stand.forget X' (fun q h => (hL q h).elim))
    exact ⟨t2, st t2 a1, b1⟩
  · obtain ⟨k1, k2, k3⟩ := vx_keep (A1 := fun _ => False) (free := fun _ => False) h0 e1 hS (fun q _ h => h.elim) (fun q h => h.elim) hL hF
    obtain ⟨t2, a1, b1⟩ := kx E ce q T'.heap (locs ++ L) hb (hP.kept (fun k x hx => k2 x.1 ((hP k x hx).lt) (fun h => h))) hD k3 (by rw [e1]; exact hce) hcv hcl T' rfl X'
    exact ⟨t2, st.trans a1, b1⟩
end Q7
theorem updL_0 (f : Nat → Int64) (x : Int64) : vp_updL f ((0 : Int32)).toNatClampNeg x 0 = x := rfl
theorem updL_n (f : Nat → Int64) (x : Int64) : vp_updL f (nI 0).toNatClampNeg x 0 = x := rfl
theorem hX_nc {b0 : Nat} {U : State} (h : XK b0 U) {E nm : String} (hm : (E, nm) ∈ ncW) : va_Nc E nm U := h.2.2.2.1 _ hm
theorem hX_cs {b0 : Nat} {s : State} {args : Array Value} (h : XK b0 s) {w : Cond} (hm : w ∈ cstW) : w.before args s = true := va_Nw.use (cstW_on w hm) (h.2.2.2.2 w hm)
abbrev wL (cL : ClassId) (q : Nat) (f : Nat → Int64) (w : va_W) : va_W := (q, .inl (cL, 1, .inr (.inl f))) :: w
set_option maxHeartbeats 4000000 in
set_option maxRecDepth 100000 in
theorem c_L_begin (l : Launch) (D : va_G) (cI cZ cQ cL : ClassId) (hfl : l.stackTraces = false) (b0 : Nat) (q : Nat) (f : Nat → Int64) (ad : Nat → Nat) (pat : Nat) (sent : Nat) (rep : Nat) (kept : Nat) (rc : Nat) (los : Nat → Nat) (wai : Nat → Nat) (set : Nat → Nat) (bad : Nat → Nat) (gon : Nat → Nat) (bk : Nat) (bp : Nat → B8) (bv : Nat → B8) (x0 : Int32) (x1 : Int32) (sz : Nat) : Met l yL_begin wsL_begin ({ frames := 7, cells := 1, slots := 6, locals := 119 } : Room) (PX b0 D (TY cI cZ cQ cL) (wL cL q f (wA cI cZ ad (pat) (sent) (rep) (kept) (rc) (los) (wai) (set) (bad) (gon) (bk) (bp) (bv))) sz [.ref (ad 0), .int (x0), .int (x1), .ref (q)]) (QI D (va_A (wL cL q f (wA cI cZ ad (pat) (sent) (rep) (kept) (rc) (los) (wai) (set) (bad) (gon) (bk) (bp) (bv))) sz) (fun z9 (u9 : va_W) => (z9 = nI (0) ∧ ((1 ≤ x0.toInt ∧ x0.toInt ≤ 8) ∧ (1 ≤ x1.toInt ∧ x1.toInt ≤ 20)) ∧ ∃ g : Nat → Int64, g 0 = (nI (sent)).toInt64 ∧ u9 = (wL cL q g (wA cI cZ ad (tn x1) (0) (0) (0) (0) (los) (wai) (set) (bad) (gon) (tn x0) (idp (tn x0) bp) (zrv (tn x0) bv)))) ∨ (z9 = nI (1) ∧ (¬ ((1 ≤ x0.toInt ∧ x0.toInt ≤ 8) ∧ (1 ≤ x1.toInt ∧ x1.toInt ≤ 20))) ∧ u9 = (wL cL q f (wA cI cZ ad (pat) (sent) (rep) (kept) (rc) (los) (wai) (set) (bad) (gon) (bk) (bp) (bv))))) (fun u9 => u9)) 1 6 (va_A (wL cL q f (wA cI cZ ad (pat) (sent) (rep) (kept) (rc) (los) (wai) (set) (bad) (gon) (bk) (bp) (bv))) sz) := by
  refine q_ofWH (hh := [(0, 10, 13, 13)]) (cc := cL_begin) (maxL := 5) (ret := (some .int)) (by decide) rfl ?_
  intro p e s m args below meth c s₁ B hml htab hv
  obtain ⟨rfl, hsz, hP, hK, hD0, hN, hX⟩ := hv
  have hx := B.exec
  have hb := B.bytes
  have hr := B.returns
  have hts := atoms_spec (ws := wsL_begin) B.pre
  have hown : s.vm.findClass RL = some m.cls := findClass_of_methodNamed B.named
  have hlocks := B.notSynchronized
  subst hsz
  have hD := hD0.self (sz := s.heap.size)
  generalize hAe : va_A (wL cL q f (wA cI cZ ad (pat) (sent) (rep) (kept) (rc) (los) (wai) (set) (bad) (gon) (bk) (bp) (bv))) s.heap.size = A at hD ⊢
  have hA : ∀ q : Nat, s.heap.size ≤ q → A q := fun q h => by rw [← hAe]; exact Or.inr h
  have hS : va_S A s.heap s.heap [] := va_S.rf
  have hl := lv_entry ([.ref (ad 0), .int (x0), .int (x1), .ref (q)]) (n := 5) (Nat.le_of_ble_eq_true rfl)
  rw [lg_entry_eq]
  generalize (lg_sl ([.ref (ad 0), .int (x0), .int (x1), .ref (q)]) ++ List.replicate (5 - (lg_sl ([.ref (ad 0), .int (x0), .int (x1), .ref (q)])).length) Slot.unset).toArray = ls at hl ⊢
  have hl : lv_has ls 5 [(0, .ref (ad 0)), (1, .int (x0)), (2, .int (x1)), (3, .ref (q))] := hl
  refine lv_aload_n hx hb dL_begin_0 rfl (lv_at hl 3 rfl) ?_
  refine lv_iconst (v := nI (0)) hx hb dL_begin_1 (by decide) ?_
  refine lv_aload_n hx hb dL_begin_2 rfl (lv_at hl 0 rfl) ?_
  refine lv_iload_n hx hb dL_begin_3 rfl (lv_at hl 1 rfl) ?_
  refine lv_iload_n hx hb dL_begin_4 rfl (lv_at hl 2 rfl) ?_
  have hPc := hP.sub (ws' := (wA cI cZ ad (pat) (sent) (rep) (kept) (rc) (los) (wai) (set) (bad) (gon) (bk) (bp) (bv))) [1, 2, 3, 4, 5, 6, 7, 8, 9] rfl
  have hDc := hD.sub (ws' := (wA cI cZ ad (pat) (sent) (rep) (kept) (rc) (los) (wai) (set) (bad) (gon) (bk) (bp) (bv))) [1, 2, 3, 4, 5, 6, 7, 8, 9] (by decide) rfl
  refine q_xci (wc := (wA cI cZ ad (pat) (sent) (rep) (kept) (rc) (los) (wai) (set) (bad) (gon) (bk) (bp) (bv))) (wr := [(q, .inl (cL, 1, .inr (.inl f)))]) (w1 := fun _ => (wA cI cZ ad (tn x1) (0) (0) (0) (0) (los) (wai) (set) (bad) (gon) (tn x0) (idp (tn x0) bp) (zrv (tn x0) bv))) (vx_runV (As := [.int (x0), .int (x1)]) (rest := [.int (nI (0)), .ref (q)]) ⟨hx, hb, hml, hown, hts⟩ (c_X3_begin l D cI cZ cQ cL hfl b0 (ad) (pat) (sent) (rep) (kept) (rc) (los) (wai) (set) (bad) (gon) (bk) (bp) (bv) (x0) (x1) s.heap.size ) (cwV 2 hts gL_begin_X3_begin rfl rfl rfl ⟨rfl, hd_X3_begin⟩ ⟨Nat.le_of_ble_eq_true rfl, Nat.le_of_ble_eq_true rfl⟩) (PX_v (q := (RX3, TX3, 13)) (ci := 2) (q0 := 0) hPc hK hDc hN hX (fun _ _ _ => rfl) rfl rfl) rfl rfl hl.1 rfl (lv_room (Nat.le_of_ble_eq_true rfl)) dL_begin_5 ⟨Nat.le_of_ble_eq_true rfl, Nat.le_of_ble_eq_true rfl⟩) hP hD hS hA [1, 2, 3, 4, 5, 6, 7, 8, 9] [0] rfl rfl (by decide) (by decide) (fun E ce q9 H locs hE hP hD hS hce hcv hcl => ?_) (fun r H locs h hP hD hS => ?_)
  · obtain ⟨rfl, hc⟩ := hE
    refine vx_catch (own := RL) (name := "java/lang/IllegalArgumentException") hown [] ⟨0, 10, 13, 13⟩ [] (by rw [htab]; rfl) (fun z hz => by cases hz) rfl (by decide) (hts (.classLink RL 13 "java/lang/IllegalArgumentException") (List.mem_of_getElem? (i := 1) rfl)) (hX_cs hX (by decide)) hce hcv hcl ?_
    refine lv_astore (lv' := [(4, .ref (q9)), (0, .ref (ad 0)), (1, .int (x0)), (2, .int (x1)), (3, .ref (q))]) hx hb dL_begin_13 hl (by decide) rfl (fun ls hl => ?_)
    refine lv_iconst (v := nI (1)) hx hb dL_begin_15 (by decide) ?_
    exact W.iret (v := nI (1)) hx hb hr (fun t ht hW => ⟨⟨_, (wL cL q f (wA cI cZ ad (pat) (sent) (rep) (kept) (rc) (los) (wai) (set) (bad) (gon) (bk) (bp) (bv))), rfl, Or.inr (⟨rfl, hc, rfl⟩), by rw [ht]; exact hP, hD⟩, hS.F ht⟩) hS.2.2 dL_begin_16
  · obtain ⟨hrr, hok⟩ := h
    subst hrr
    have hP : va_P D vwCl (wL cL q f (wA cI cZ ad (tn x1) (0) (0) (0) (0) (los) (wai) (set) (bad) (gon) (tn x0) (idp (tn x0) bp) (zrv (tn x0) bv))) H := hP
    have hD : va_D A (wL cL q f (wA cI cZ ad (tn x1) (0) (0) (0) (0) (los) (wai) (set) (bad) (gon) (tn x0) (idp (tn x0) bp) (zrv (tn x0) bv))) := hD
    refine lv_i2l (v := (nI (sent)).toInt64) hx hb dL_begin_8 rfl ?_
    refine va_last (f := f) hx hb hK hP hD hS 0 3 rfl rfl (vp_in_nI (by decide) (by decide)) dL_begin_9 (fun H locs hP hD hS => ?_)
    have hP : va_P D vwCl (wL cL q (vp_updL f (nI 0).toNatClampNeg (nI (sent)).toInt64) (wA cI cZ ad (tn x1) (0) (0) (0) (0) (los) (wai) (set) (bad) (gon) (tn x0) (idp (tn x0) bp) (zrv (tn x0) bv))) H := hP
    have hD : va_D A (wL cL q (vp_updL f (nI 0).toNatClampNeg (nI (sent)).toInt64) (wA cI cZ ad (tn x1) (0) (0) (0) (0) (los) (wai) (set) (bad) (gon) (tn x0) (idp (tn x0) bp) (zrv (tn x0) bv))) := hD
    refine lv_goto (tgt := 17) hx hb dL_begin_10 (by decide) ?_
    refine lv_iconst (v := nI (0)) hx hb dL_begin_17 (by decide) ?_
    exact W.iret (v := nI (0)) hx hb hr (fun t ht hW => ⟨⟨_, _, rfl, Or.inl ⟨rfl, hok, _, updL_n _ _, rfl⟩, by rw [ht]; exact hP, hD⟩, hS.F ht⟩) hS.2.2 dL_begin_18

set_option maxHeartbeats 4000000 in
set_option maxRecDepth 100000 in
theorem c_L_setDatum (l : Launch) (D : va_G) (cI cZ cQ cL : ClassId) (hfl : l.stackTraces = false) (b0 : Nat) (q : Nat) (f : Nat → Int64) (ad : Nat → Nat) (pat : Nat) (sent : Nat) (rep : Nat) (kept : Nat) (rc : Nat) (los : Nat → Nat) (wai : Nat → Nat) (set : Nat → Nat) (bad : Nat → Nat) (gon : Nat → Nat) (bk : Nat) (bp : Nat → B8) (bv : Nat → B8) (x0 : Int32) (x1 : Int32) (sz : Nat) (hbk : bk ≤ 8) (hse : sent ≤ 10000) : Met l yL_setDatum wsL_setDatum ({ frames := 8, cells := 2, slots := 12, locals := 140 } : Room) (PX b0 D (TY cI cZ cQ cL) (wL cL q f (wA cI cZ ad (pat) (sent) (rep) (kept) (rc) (los) (wai) (set) (bad) (gon) (bk) (bp) (bv))) sz [.ref (ad 0), .int (x0), .int (x1), .ref (q)]) (QI D (va_A (wL cL q f (wA cI cZ ad (pat) (sent) (rep) (kept) (rc) (los) (wai) (set) (bad) (gon) (bk) (bp) (bv))) sz) (fun z9 (u9 : va_W) => (z9 = nI (0) ∧ ((0 ≤ x0.toInt ∧ x0.toInt < bk) ∧ (0 ≤ x1.toInt ∧ x1.toInt ≤ 255) ∧ sent = 0) ∧ ∃ g : Nat → Int64, g 0 = (bI (bv (tn x0))).toInt64 ∧ u9 = (wL cL q g (wA cI cZ ad (pat) (sent) (rep) (kept) (rc) (los) (wai) (set) (bad) (gon) (bk) (bp) (ub bv (tn x0) (BitVec.ofNat 8 (tn x1)))))) ∨ (z9 = nI (1) ∧ (¬ (0 ≤ x0.toInt ∧ x0.toInt < bk)) ∧ u9 = (wL cL q f (wA cI cZ ad (pat) (sent) (rep) (kept) (rc) (los) (wai) (set) (bad) (gon) (bk) (bp) (bv)))) ∨ (z9 = nI (2) ∧ ((0 ≤ x0.toInt ∧ x0.toInt < bk) ∧ ¬ (0 ≤ x1.toInt ∧ x1.toInt ≤ 255)) ∧ u9 = (wL cL q f (wA cI cZ ad (pat) (sent) (rep) (kept) (rc) (los) (wai) (set) (bad) (gon) (bk) (bp) (bv)))) ∨ (z9 = nI (3) ∧ ((0 ≤ x0.toInt ∧ x0.toInt < bk) ∧ (0 ≤ x1.toInt ∧ x1.toInt ≤ 255) ∧ ¬ sent = 0) ∧ u9 = (wL cL q f (wA cI cZ ad (pat) (sent) (rep) (kept) (rc) (los) (wai) (set) (bad) (gon) (bk) (bp) (bv))))) (fun u9 => u9)) 2 12 (va_A (wL cL q f (wA cI cZ ad (pat) (sent) (rep) (kept) (rc) (los) (wai) (set) (bad) (gon) (bk) (bp) (bv))) sz) := by
  refine q_ofWH (hh := [(0, 10, 13, 18), (0, 10, 17, 13), (0, 10, 21, 20)]) (cc := cL_setDatum) (maxL := 5) (ret := (some .int)) (by decide) rfl ?_
  intro p e s m args below meth c s₁ B hml htab hv
  obtain ⟨rfl, hsz, hP, hK, hD0, hN, hX⟩ := hv
  have hx := B.exec
  have hb := B.bytes
  have hr := B.returns
  have hts := atoms_spec (ws := wsL_setDatum) B.pre
  have hown : s.vm.findClass RL = some m.cls := findClass_of_methodNamed B.named
  have hlocks := B.notSynchronized
  subst hsz
  have hD := hD0.self (sz := s.heap.size)
  generalize hAe : va_A (wL cL q f (wA cI cZ ad (pat) (sent) (rep) (kept) (rc) (los) (wai) (set) (bad) (gon) (bk) (bp) (bv))) s.heap.size = A at hD ⊢
  have hA : ∀ q : Nat, s.heap.size ≤ q → A q := fun q h => by rw [← hAe]; exact Or.inr h
  have hS : va_S A s.heap s.heap [] := va_S.rf
  have hl := lv_entry ([.ref (ad 0), .int (x0), .int (x1), .ref (q)]) (n := 5) (Nat.le_of_ble_eq_true rfl)
  rw [lg_entry_eq]
  generalize (lg_sl ([.ref (ad 0), .int (x0), .int (x1), .ref (q)]) ++ List.replicate (5 - (lg_sl ([.ref (ad 0), .int (x0), .int (x1), .ref (q)])).length) Slot.unset).toArray = ls at hl ⊢
  have hl : lv_has ls 5 [(0, .ref (ad 0)), (1, .int (x0)), (2, .int (x1)), (3, .ref (q))] := hl
  refine lv_aload_n hx hb dL_setDatum_0 rfl (lv_at hl 3 rfl) ?_
  refine lv_iconst (v := nI (0)) hx hb dL_setDatum_1 (by decide) ?_
  refine lv_aload_n hx hb dL_setDatum_2 rfl (lv_at hl 0 rfl) ?_
  refine lv_iload_n hx hb dL_setDatum_3 rfl (lv_at hl 1 rfl) ?_
  refine lv_iload_n hx hb dL_setDatum_4 rfl (lv_at hl 2 rfl) ?_
  have hPc := hP.sub (ws' := (wA cI cZ ad (pat) (sent) (rep) (kept) (rc) (los) (wai) (set) (bad) (gon) (bk) (bp) (bv))) [1, 2, 3, 4, 5, 6, 7, 8, 9] rfl
  have hDc := hD.sub (ws' := (wA cI cZ ad (pat) (sent) (rep) (kept) (rc) (los) (wai) (set) (bad) (gon) (bk) (bp) (bv))) [1, 2, 3, 4, 5, 6, 7, 8, 9] (by decide) rfl
  refine q_xci (wc := (wA cI cZ ad (pat) (sent) (rep) (kept) (rc) (los) (wai) (set) (bad) (gon) (bk) (bp) (bv))) (wr := [(q, .inl (cL, 1, .inr (.inl f)))]) (w1 := fun _ => (wA cI cZ ad (pat) (sent) (rep) (kept) (rc) (los) (wai) (set) (bad) (gon) (bk) (bp) (ub bv (tn x0) (BitVec.ofNat 8 (tn x1))))) (vx_runV (As := [.int (x0), .int (x1)]) (rest := [.int (nI (0)), .ref (q)]) ⟨hx, hb, hml, hown, hts⟩ (c_X3_setDatum l D cI cZ cQ cL hfl b0 (ad) (pat) (sent) (rep) (kept) (rc) (los) (wai) (set) (bad) (gon) (bk) (bp) (bv) (x0) (x1) s.heap.size hbk hse) (cwV 2 hts gL_setDatum_X3_setDatum rfl rfl rfl ⟨rfl, hd_X3_setDatum⟩ ⟨Nat.le_of_ble_eq_true rfl, Nat.le_of_ble_eq_true rfl⟩) (PX_v (q := (RX3, TX3, 13)) (ci := 2) (q0 := 0) hPc hK hDc hN hX (fun _ _ _ => rfl) rfl rfl) rfl rfl hl.1 rfl (lv_room (Nat.le_of_ble_eq_true rfl)) dL_setDatum_5 ⟨Nat.le_of_ble_eq_true rfl, Nat.le_of_ble_eq_true rfl⟩) hP hD hS hA [1, 2, 3, 4, 5, 6, 7, 8, 9] [0] rfl rfl (by decide) (by decide) (fun E ce q9 H locs hE hP hD hS hce hcv hcl => ?_) (fun r H locs h hP hD hS => ?_)
  · rcases hE with ⟨rfl, hc⟩ | ⟨rfl, hc⟩ | ⟨rfl, hc⟩
    · refine vx_catch (own := RL) (name := "java/lang/IndexOutOfBoundsException") hown [] ⟨0, 10, 13, 18⟩ [⟨0, 10, 17, 13⟩, ⟨0, 10, 21, 20⟩] (by rw [htab]; rfl) (fun z hz => by cases hz) rfl (by decide) (hts (.classLink RL 18 "java/lang/IndexOutOfBoundsException") (List.mem_of_getElem? (i := 1) rfl)) (hX_cs hX (by decide)) hce hcv hcl ?_
      refine lv_astore (lv' := [(4, .ref (q9)), (0, .ref (ad 0)), (1, .int (x0)), (2, .int (x1)), (3, .ref (q))]) hx hb dL_setDatum_13 hl (by decide) rfl (fun ls hl => ?_)
      refine lv_iconst (v := nI (1)) hx hb dL_setDatum_15 (by decide) ?_
      exact W.iret (v := nI (1)) hx hb hr (fun t ht hW => ⟨⟨_, (wL cL q f (wA cI cZ ad (pat) (sent) (rep) (kept) (rc) (los) (wai) (set) (bad) (gon) (bk) (bp) (bv))), rfl, Or.inr (Or.inl ⟨rfl, hc, rfl⟩), by rw [ht]; exact hP, hD⟩, hS.F ht⟩) hS.2.2 dL_setDatum_16
    · refine vx_catch (own := RL) (name := "java/lang/IllegalArgumentException") hown [⟨0, 10, 13, 18⟩] ⟨0, 10, 17, 13⟩ [⟨0, 10, 21, 20⟩] (by rw [htab]; rfl) (fun z hz => by obtain rfl := List.mem_singleton.mp hz; exact Or.inr ⟨by decide, "java/lang/IndexOutOfBoundsException", (hts (.classLink RL 18 "java/lang/IndexOutOfBoundsException") (List.mem_of_getElem? (i := 1) rfl)), hX_nc hX (by decide)⟩) rfl (by decide) (hts (.classLink RL 13 "java/lang/IllegalArgumentException") (List.mem_of_getElem? (i := 2) rfl)) (hX_cs hX (by decide)) hce hcv hcl ?_
      refine lv_astore (lv' := [(4, .ref (q9)), (0, .ref (ad 0)), (1, .int (x0)), (2, .int (x1)), (3, .ref (q))]) hx hb dL_setDatum_17 hl (by decide) rfl (fun ls hl => ?_)
      refine lv_iconst (v := nI (2)) hx hb dL_setDatum_19 (by decide) ?_
      exact W.iret (v := nI (2)) hx hb hr (fun t ht hW => ⟨⟨_, (wL cL q f (wA cI cZ ad (pat) (sent) (rep) (kept) (rc) (los) (wai) (set) (bad) (gon) (bk) (bp) (bv))), rfl, Or.inr (Or.inr (Or.inl ⟨rfl, hc, rfl⟩)), by rw [ht]; exact hP, hD⟩, hS.F ht⟩) hS.2.2 dL_setDatum_20
    · refine vx_catch (own := RL) (name := "java/lang/IllegalStateException") hown [⟨0, 10, 13, 18⟩, ⟨0, 10, 17, 13⟩] ⟨0, 10, 21, 20⟩ [] (by rw [htab]; rfl) (fun z hz => (List.mem_cons.mp hz).elim (fun h => by subst h; exact Or.inr ⟨by decide, "java/lang/IndexOutOfBoundsException", (hts (.classLink RL 18 "java/lang/IndexOutOfBoundsException") (List.mem_of_getElem? (i := 1) rfl)), hX_nc hX (by decide)⟩) (fun h => by obtain rfl := List.mem_singleton.mp h; exact Or.inr ⟨by decide, "java/lang/IllegalArgumentException", (hts (.classLink RL 13 "java/lang/IllegalArgumentException") (List.mem_of_getElem? (i := 2) rfl)), hX_nc hX (by decide)⟩)) rfl (by decide) (hts (.classLink RL 20 "java/lang/IllegalStateException") (List.mem_of_getElem? (i := 3) rfl)) (hX_cs hX (by decide)) hce hcv hcl ?_
      refine lv_astore (lv' := [(4, .ref (q9)), (0, .ref (ad 0)), (1, .int (x0)), (2, .int (x1)), (3, .ref (q))]) hx hb dL_setDatum_21 hl (by decide) rfl (fun ls hl => ?_)
      refine lv_iconst (v := nI (3)) hx hb dL_setDatum_23 (by decide) ?_
      exact W.iret (v := nI (3)) hx hb hr (fun t ht hW => ⟨⟨_, (wL cL q f (wA cI cZ ad (pat) (sent) (rep) (kept) (rc) (los) (wai) (set) (bad) (gon) (bk) (bp) (bv))), rfl, Or.inr (Or.inr (Or.inr (⟨rfl, hc, rfl⟩))), by rw [ht]; exact hP, hD⟩, hS.F ht⟩) hS.2.2 dL_setDatum_24
  · obtain ⟨hrr, hok⟩ := h
    subst hrr
    have hP : va_P D vwCl (wL cL q f (wA cI cZ ad (pat) (sent) (rep) (kept) (rc) (los) (wai) (set) (bad) (gon) (bk) (bp) (ub bv (tn x0) (BitVec.ofNat 8 (tn x1))))) H := hP
    have hD : va_D A (wL cL q f (wA cI cZ ad (pat) (sent) (rep) (kept) (rc) (los) (wai) (set) (bad) (gon) (bk) (bp) (ub bv (tn x0) (BitVec.ofNat 8 (tn x1))))) := hD
    refine lv_i2l (v := (bI (bv (tn x0))).toInt64) hx hb dL_setDatum_8 rfl ?_
    refine va_last (f := f) hx hb hK hP hD hS 0 3 rfl rfl (vp_in_nI (by decide) (by decide)) dL_setDatum_9 (fun H locs hP hD hS => ?_)
    have hP : va_P D vwCl (wL cL q (vp_updL f (nI 0).toNatClampNeg (bI (bv (tn x0))).toInt64) (wA cI cZ ad (pat) (sent) (rep) (kept) (rc) (los) (wai) (set) (bad) (gon) (bk) (bp) (ub bv (tn x0) (BitVec.ofNat 8 (tn x1))))) H := hP
    have hD : va_D A (wL cL q (vp_updL f (nI 0).toNatClampNeg (bI (bv (tn x0))).toInt64) (wA cI cZ ad (pat) (sent) (rep) (kept) (rc) (los) (wai) (set) (bad) (gon) (bk) (bp) (ub bv (tn x0) (BitVec.ofNat 8 (tn x1))))) := hD
    refine lv_goto (tgt := 25) hx hb dL_setDatum_10 (by decide) ?_
    refine lv_iconst (v := nI (0)) hx hb dL_setDatum_25 (by decide) ?_
    exact W.iret (v := nI (0)) hx hb hr (fun t ht hW => ⟨⟨_, _, rfl, Or.inl ⟨rfl, hok, _, updL_n _ _, rfl⟩, by rw [ht]; exact hP, hD⟩, hS.F ht⟩) hS.2.2 dL_setDatum_26

set_option maxHeartbeats 4000000 in
set_option maxRecDepth 100000 in
theorem c_L_join (l : Launch) (D : va_G) (cI cZ cQ cL : ClassId) (hfl : l.stackTraces = false) (b0 : Nat) (q : Nat) (f : Nat → Int64) (ad : Nat → Nat) (pat : Nat) (sent : Nat) (rep : Nat) (kept : Nat) (rc : Nat) (los : Nat → Nat) (wai : Nat → Nat) (set : Nat → Nat) (bad : Nat → Nat) (gon : Nat → Nat) (bk : Nat) (bp : Nat → B8) (bv : Nat → B8) (x0 : Int32) (x1 : Int32) (sz : Nat) (hrc : rc ≤ 6) : Met l yL_join wsL_join ({ frames := 8, cells := 3, slots := 18, locals := 139 } : Room) (PX b0 D (TY cI cZ cQ cL) (wL cL q f (wA cI cZ ad (pat) (sent) (rep) (kept) (rc) (los) (wai) (set) (bad) (gon) (bk) (bp) (bv))) sz [.ref (ad 0), .int (x0), .int (x1), .ref (q)]) (QI D (va_A (wL cL q f (wA cI cZ ad (pat) (sent) (rep) (kept) (rc) (los) (wai) (set) (bad) (gon) (bk) (bp) (bv))) sz) (fun z9 (u9 : va_W) => (z9 = nI (0) ∧ ((0 ≤ x0.toInt ∧ x0.toInt ≤ 2047) ∧ (0 ≤ x1.toInt ∧ x1.toInt ≤ 20) ∧ rc < 6) ∧ ∃ g : Nat → Int64, g 0 = (nI (rc)).toInt64 ∧ u9 = (wL cL q g (wA cI cZ ad (pat) (sent) (rep) (kept) (rc + 1) (un los rc (tn x0)) (un wai rc (tn x1)) (un set rc 0) (un bad rc 0) (un gon rc 0) (bk) (bp) (bv)))) ∨ (z9 = nI (1) ∧ (¬ ((0 ≤ x0.toInt ∧ x0.toInt ≤ 2047) ∧ (0 ≤ x1.toInt ∧ x1.toInt ≤ 20))) ∧ u9 = (wL cL q f (wA cI cZ ad (pat) (sent) (rep) (kept) (rc) (los) (wai) (set) (bad) (gon) (bk) (bp) (bv)))) ∨ (z9 = nI (2) ∧ (((0 ≤ x0.toInt ∧ x0.toInt ≤ 2047) ∧ (0 ≤ x1.toInt ∧ x1.toInt ≤ 20)) ∧ ¬ rc < 6) ∧ u9 = (wL cL q f (wA cI cZ ad (pat) (sent) (rep) (kept) (rc) (los) (wai) (set) (bad) (gon) (bk) (bp) (bv))))) (fun u9 => u9)) 3 18 (va_A (wL cL q f (wA cI cZ ad (pat) (sent) (rep) (kept) (rc) (los) (wai) (set) (bad) (gon) (bk) (bp) (bv))) sz) := by
  refine q_ofWH (hh := [(0, 10, 13, 13), (0, 10, 17, 20)]) (cc := cL_join) (maxL := 5) (ret := (some .int)) (by decide) rfl ?_
  intro p e s m args below meth c s₁ B hml htab hv
  obtain ⟨rfl, hsz, hP, hK, hD0, hN, hX⟩ := hv
  have hx := B.exec
  have hb := B.bytes
  have hr := B.returns
  have hts := atoms_spec (ws := wsL_join) B.pre
  have hown : s.vm.findClass RL = some m.cls := findClass_of_methodNamed B.named
  have hlocks := B.notSynchronized
  subst hsz
  have hD := hD0.self (sz := s.heap.size)
  generalize hAe : va_A (wL cL q f (wA cI cZ ad (pat) (sent) (rep) (kept) (rc) (los) (wai) (set) (bad) (gon) (bk) (bp) (bv))) s.heap.size = A at hD ⊢
  have hA : ∀ q : Nat, s.heap.size ≤ q → A q := fun q h => by rw [← hAe]; exact Or.inr h
  have hS : va_S A s.heap s.heap [] := va_S.rf
  have hl := lv_entry ([.ref (ad 0), .int (x0), .int (x1), .ref (q)]) (n := 5) (Nat.le_of_ble_eq_true rfl)
  rw [lg_entry_eq]
  generalize (lg_sl ([.ref (ad 0), .int (x0), .int (x1), .ref (q)]) ++ List.replicate (5 - (lg_sl ([.ref (ad 0), .int (x0), .int (x1), .ref (q)])).length) Slot.unset).toArray = ls at hl ⊢
  have hl : lv_has ls 5 [(0, .ref (ad 0)), (1, .int (x0)), (2, .int (x1)), (3, .ref (q))] := hl
  refine lv_aload_n hx hb dL_join_0 rfl (lv_at hl 3 rfl) ?_
  refine lv_iconst (v := nI (0)) hx hb dL_join_1 (by decide) ?_
  refine lv_aload_n hx hb dL_join_2 rfl (lv_at hl 0 rfl) ?_
  refine lv_iload_n hx hb dL_join_3 rfl (lv_at hl 1 rfl) ?_
  refine lv_iload_n hx hb dL_join_4 rfl (lv_at hl 2 rfl) ?_
  have hPc := hP.sub (ws' := (wA cI cZ ad (pat) (sent) (rep) (kept) (rc) (los) (wai) (set) (bad) (gon) (bk) (bp) (bv))) [1, 2, 3, 4, 5, 6, 7, 8, 9] rfl
  have hDc := hD.sub (ws' := (wA cI cZ ad (pat) (sent) (rep) (kept) (rc) (los) (wai) (set) (bad) (gon) (bk) (bp) (bv))) [1, 2, 3, 4, 5, 6, 7, 8, 9] (by decide) rfl
  refine q_xci (wc := (wA cI cZ ad (pat) (sent) (rep) (kept) (rc) (los) (wai) (set) (bad) (gon) (bk) (bp) (bv))) (wr := [(q, .inl (cL, 1, .inr (.inl f)))]) (w1 := fun _ => (wA cI cZ ad (pat) (sent) (rep) (kept) (rc + 1) (un los rc (tn x0)) (un wai rc (tn x1)) (un set rc 0) (un bad rc 0) (un gon rc 0) (bk) (bp) (bv))) (vx_runV (As := [.int (x0), .int (x1)]) (rest := [.int (nI (0)), .ref (q)]) ⟨hx, hb, hml, hown, hts⟩ (c_X3_join l D cI cZ cQ cL hfl b0 (ad) (pat) (sent) (rep) (kept) (rc) (los) (wai) (set) (bad) (gon) (bk) (bp) (bv) (x0) (x1) s.heap.size hrc) (cwV 2 hts gL_join_X3_join rfl rfl rfl ⟨rfl, hd_X3_join⟩ ⟨Nat.le_of_ble_eq_true rfl, Nat.le_of_ble_eq_true rfl⟩) (PX_v (q := (RX3, TX3, 13)) (ci := 2) (q0 := 0) hPc hK hDc hN hX (fun _ _ _ => rfl) rfl rfl) rfl rfl hl.1 rfl (lv_room (Nat.le_of_ble_eq_true rfl)) dL_join_5 ⟨Nat.le_of_ble_eq_true rfl, Nat.le_of_ble_eq_true rfl⟩) hP hD hS hA [1, 2, 3, 4, 5, 6, 7, 8, 9] [0] rfl rfl (by decide) (by decide) (fun E ce q9 H locs hE hP hD hS hce hcv hcl => ?_) (fun r H locs h hP hD hS => ?_)
  · rcases hE with ⟨rfl, hc⟩ | ⟨rfl, hc⟩
    · refine vx_catch (own := RL) (name := "java/lang/IllegalArgumentException") hown [] ⟨0, 10, 13, 13⟩ [⟨0, 10, 17, 20⟩] (by rw [htab]; rfl) (fun z hz => by cases hz) rfl (by decide) (hts (.classLink RL 13 "java/lang/IllegalArgumentException") (List.mem_of_getElem? (i := 1) rfl)) (hX_cs hX (by decide)) hce hcv hcl ?_
      refine lv_astore (lv' := [(4, .ref (q9)), (0, .ref (ad 0)), (1, .int (x0)), (2, .int (x1)), (3, .ref (q))]) hx hb dL_join_13 hl (by decide) rfl (fun ls hl => ?_)
      refine lv_iconst (v := nI (1)) hx hb dL_join_15 (by decide) ?_
      exact W.iret (v := nI (1)) hx hb hr (fun t ht hW => ⟨⟨_, (wL cL q f (wA cI cZ ad (pat) (sent) (rep) (kept) (rc) (los) (wai) (set) (bad) (gon) (bk) (bp) (bv))), rfl, Or.inr (Or.inl ⟨rfl, hc, rfl⟩), by rw [ht]; exact hP, hD⟩, hS.F ht⟩) hS.2.2 dL_join_16
    · refine vx_catch (own := RL) (name := "java/lang/IllegalStateException") hown [⟨0, 10, 13, 13⟩] ⟨0, 10, 17, 20⟩ [] (by rw [htab]; rfl) (fun z hz => by obtain rfl := List.mem_singleton.mp hz; exact Or.inr ⟨by decide, "java/lang/IllegalArgumentException", (hts (.classLink RL 13 "java/lang/IllegalArgumentException") (List.mem_of_getElem? (i := 1) rfl)), hX_nc hX (by decide)⟩) rfl (by decide) (hts (.classLink RL 20 "java/lang/IllegalStateException") (List.mem_of_getElem? (i := 2) rfl)) (hX_cs hX (by decide)) hce hcv hcl ?_
      refine lv_astore (lv' := [(4, .ref (q9)), (0, .ref (ad 0)), (1, .int (x0)), (2, .int (x1)), (3, .ref (q))]) hx hb dL_join_17 hl (by decide) rfl (fun ls hl => ?_)
      refine lv_iconst (v := nI (2)) hx hb dL_join_19 (by decide) ?_
      exact W.iret (v := nI (2)) hx hb hr (fun t ht hW => ⟨⟨_, (wL cL q f (wA cI cZ ad (pat) (sent) (rep) (kept) (rc) (los) (wai) (set) (bad) (gon) (bk) (bp) (bv))), rfl, Or.inr (Or.inr (⟨rfl, hc, rfl⟩)), by rw [ht]; exact hP, hD⟩, hS.F ht⟩) hS.2.2 dL_join_20
  · obtain ⟨hrr, hok⟩ := h
    subst hrr
    have hP : va_P D vwCl (wL cL q f (wA cI cZ ad (pat) (sent) (rep) (kept) (rc + 1) (un los rc (tn x0)) (un wai rc (tn x1)) (un set rc 0) (un bad rc 0) (un gon rc 0) (bk) (bp) (bv))) H := hP
    have hD : va_D A (wL cL q f (wA cI cZ ad (pat) (sent) (rep) (kept) (rc + 1) (un los rc (tn x0)) (un wai rc (tn x1)) (un set rc 0) (un bad rc 0) (un gon rc 0) (bk) (bp) (bv))) := hD
    refine lv_i2l (v := (nI (rc)).toInt64) hx hb dL_join_8 rfl ?_
    refine va_last (f := f) hx hb hK hP hD hS 0 3 rfl rfl (vp_in_nI (by decide) (by decide)) dL_join_9 (fun H locs hP hD hS => ?_)
    have hP : va_P D vwCl (wL cL q (vp_updL f (nI 0).toNatClampNeg (nI (rc)).toInt64) (wA cI cZ ad (pat) (sent) (rep) (kept) (rc + 1) (un los rc (tn x0)) (un wai rc (tn x1)) (un set rc 0) (un bad rc 0) (un gon rc 0) (bk) (bp) (bv))) H := hP
    have hD : va_D A (wL cL q (vp_updL f (nI 0).toNatClampNeg (nI (rc)).toInt64) (wA cI cZ ad (pat) (sent) (rep) (kept) (rc + 1) (un los rc (tn x0)) (un wai rc (tn x1)) (un set rc 0) (un bad rc 0) (un gon rc 0) (bk) (bp) (bv))) := hD
    refine lv_goto (tgt := 21) hx hb dL_join_10 (by decide) ?_
    refine lv_iconst (v := nI (0)) hx hb dL_join_21 (by decide) ?_
    exact W.iret (v := nI (0)) hx hb hr (fun t ht hW => ⟨⟨_, _, rfl, Or.inl ⟨rfl, hok, _, updL_n _ _, rfl⟩, by rw [ht]; exact hP, hD⟩, hS.F ht⟩) hS.2.2 dL_join_22

set_option maxHeartbeats 4000000 in
set_option maxRecDepth 100000 in
theorem c_L_setLosses (l : Launch) (D : va_G) (cI cZ cQ cL : ClassId) (hfl : l.stackTraces = false) (b0 : Nat) (q : Nat) (f : Nat → Int64) (ad : Nat → Nat) (pat : Nat) (sent : Nat) (rep : Nat) (kept : Nat) (rc : Nat) (los : Nat → Nat) (wai : Nat → Nat) (set : Nat → Nat) (bad : Nat → Nat) (gon : Nat → Nat) (bk : Nat) (bp : Nat → B8) (bv : Nat → B8) (x0 : Int32) (x1 : Int32) (sz : Nat) (hrc : rc ≤ 6) : Met l yL_setLosses wsL_setLosses ({ frames := 8, cells := 2, slots := 12, locals := 140 } : Room) (PX b0 D (TY cI cZ cQ cL) (wL cL q f (wA cI cZ ad (pat) (sent) (rep) (kept) (rc) (los) (wai) (set) (bad) (gon) (bk) (bp) (bv))) sz [.ref (ad 0), .int (x0), .int (x1), .ref (q)]) (QI D (va_A (wL cL q f (wA cI cZ ad (pat) (sent) (rep) (kept) (rc) (los) (wai) (set) (bad) (gon) (bk) (bp) (bv))) sz) (fun z9 (u9 : va_W) => (z9 = nI (0) ∧ ((0 ≤ x0.toInt ∧ x0.toInt < rc) ∧ (0 ≤ x1.toInt ∧ x1.toInt ≤ 2047)) ∧ ∃ g : Nat → Int64, g 0 = (nI (los (tn x0))).toInt64 ∧ u9 = (wL cL q g (wA cI cZ ad (pat) (sent) (rep) (kept) (rc) (un los (tn x0) (tn x1)) (wai) (set) (bad) (gon) (bk) (bp) (bv)))) ∨ (z9 = nI (1) ∧ (¬ (0 ≤ x0.toInt ∧ x0.toInt < rc)) ∧ u9 = (wL cL q f (wA cI cZ ad (pat) (sent) (rep) (kept) (rc) (los) (wai) (set) (bad) (gon) (bk) (bp) (bv)))) ∨ (z9 = nI (2) ∧ ((0 ≤ x0.toInt ∧ x0.toInt < rc) ∧ ¬ (0 ≤ x1.toInt ∧ x1.toInt ≤ 2047)) ∧ u9 = (wL cL q f (wA cI cZ ad (pat) (sent) (rep) (kept) (rc) (los) (wai) (set) (bad) (gon) (bk) (bp) (bv))))) (fun u9 => u9)) 2 12 (va_A (wL cL q f (wA cI cZ ad (pat) (sent) (rep) (kept) (rc) (los) (wai) (set) (bad) (gon) (bk) (bp) (bv))) sz) := by
  refine q_ofWH (hh := [(0, 10, 13, 18), (0, 10, 17, 13)]) (cc := cL_setLosses) (maxL := 5) (ret := (some .int)) (by decide) rfl ?_
  intro p e s m args below meth c s₁ B hml htab hv
  obtain ⟨rfl, hsz, hP, hK, hD0, hN, hX⟩ := hv
  have hx := B.exec
  have hb := B.bytes
  have hr := B.returns
  have hts := atoms_spec (ws := wsL_setLosses) B.pre
  have hown : s.vm.findClass RL = some m.cls := findClass_of_methodNamed B.named
  have hlocks := B.notSynchronized
  subst hsz
  have hD := hD0.self (sz := s.heap.size)
  generalize hAe : va_A (wL cL q f (wA cI cZ ad (pat) (sent) (rep) (kept) (rc) (los) (wai) (set) (bad) (gon) (bk) (bp) (bv))) s.heap.size = A at hD ⊢
  have hA : ∀ q : Nat, s.heap.size ≤ q → A q := fun q h => by rw [← hAe]; exact Or.inr h
  have hS : va_S A s.heap s.heap [] := va_S.rf
  have hl := lv_entry ([.ref (ad 0), .int (x0), .int (x1), .ref (q)]) (n := 5) (Nat.le_of_ble_eq_true rfl)
  rw [lg_entry_eq]
  generalize (lg_sl ([.ref (ad 0), .int (x0), .int (x1), .ref (q)]) ++ List.replicate (5 - (lg_sl ([.ref (ad 0), .int (x0), .int (x1), .ref (q)])).length) Slot.unset).toArray = ls at hl ⊢
  have hl : lv_has ls 5 [(0, .ref (ad 0)), (1, .int (x0)), (2, .int (x1)), (3, .ref (q))] := hl
  refine lv_aload_n hx hb dL_setLosses_0 rfl (lv_at hl 3 rfl) ?_
  refine lv_iconst (v := nI (0)) hx hb dL_setLosses_1 (by decide) ?_
  refine lv_aload_n hx hb dL_setLosses_2 rfl (lv_at hl 0 rfl) ?_
  refine lv_iload_n hx hb dL_setLosses_3 rfl (lv_at hl 1 rfl) ?_
  refine lv_iload_n hx hb dL_setLosses_4 rfl (lv_at hl 2 rfl) ?_
  have hPc := hP.sub (ws' := (wA cI cZ ad (pat) (sent) (rep) (kept) (rc) (los) (wai) (set) (bad) (gon) (bk) (bp) (bv))) [1, 2, 3, 4, 5, 6, 7, 8, 9] rfl
  have hDc := hD.sub (ws' := (wA cI cZ ad (pat) (sent) (rep) (kept) (rc) (los) (wai) (set) (bad) (gon) (bk) (bp) (bv))) [1, 2, 3, 4, 5, 6, 7, 8, 9] (by decide) rfl
  refine q_xci (wc := (wA cI cZ ad (pat) (sent) (rep) (kept) (rc) (los) (wai) (set) (bad) (gon) (bk) (bp) (bv))) (wr := [(q, .inl (cL, 1, .inr (.inl f)))]) (w1 := fun _ => (wA cI cZ ad (pat) (sent) (rep) (kept) (rc) (un los (tn x0) (tn x1)) (wai) (set) (bad) (gon) (bk) (bp) (bv))) (vx_runV (As := [.int (x0), .int (x1)]) (rest := [.int (nI (0)), .ref (q)]) ⟨hx, hb, hml, hown, hts⟩ (c_X3_setLosses l D cI cZ cQ cL hfl b0 (ad) (pat) (sent) (rep) (kept) (rc) (los) (wai) (set) (bad) (gon) (bk) (bp) (bv) (x0) (x1) s.heap.size hrc) (cwV 2 hts gL_setLosses_X3_setLosses rfl rfl rfl ⟨rfl, hd_X3_setLosses⟩ ⟨Nat.le_of_ble_eq_true rfl, Nat.le_of_ble_eq_true rfl⟩) (PX_v (q := (RX3, TX3, 13)) (ci := 2) (q0 := 0) hPc hK hDc hN hX (fun _ _ _ => rfl) rfl rfl) rfl rfl hl.1 rfl (lv_room (Nat.le_of_ble_eq_true rfl)) dL_setLosses_5 ⟨Nat.le_of_ble_eq_true rfl, Nat.le_of_ble_eq_true rfl⟩) hP hD hS hA [1, 2, 3, 4, 5, 6, 7, 8, 9] [0] rfl rfl (by decide) (by decide) (fun E ce q9 H locs hE hP hD hS hce hcv hcl => ?_) (fun r H locs h hP hD hS => ?_)
  · rcases hE with ⟨rfl, hc⟩ | ⟨rfl, hc⟩
    · refine vx_catch (own := RL) (name := "java/lang/IndexOutOfBoundsException") hown [] ⟨0, 10, 13, 18⟩ [⟨0, 10, 17, 13⟩] (by rw [htab]; rfl) (fun z hz => by cases hz) rfl (by decide) (hts (.classLink RL 18 "java/lang/IndexOutOfBoundsException") (List.mem_of_getElem? (i := 1) rfl)) (hX_cs hX (by decide)) hce hcv hcl ?_
      refine lv_astore (lv' := [(4, .ref (q9)), (0, .ref (ad 0)), (1, .int (x0)), (2, .int (x1)), (3, .ref (q))]) hx hb dL_setLosses_13 hl (by decide) rfl (fun ls hl => ?_)
      refine lv_iconst (v := nI (1)) hx hb dL_setLosses_15 (by decide) ?_
      exact W.iret (v := nI (1)) hx hb hr (fun t ht hW => ⟨⟨_, (wL cL q f (wA cI cZ ad (pat) (sent) (rep) (kept) (rc) (los) (wai) (set) (bad) (gon) (bk) (bp) (bv))), rfl, Or.inr (Or.inl ⟨rfl, hc, rfl⟩), by rw [ht]; exact hP, hD⟩, hS.F ht⟩) hS.2.2 dL_setLosses_16
    · refine vx_catch (own := RL) (name := "java/lang/IllegalArgumentException") hown [⟨0, 10, 13, 18⟩] ⟨0, 10, 17, 13⟩ [] (by rw [htab]; rfl) (fun z hz => by obtain rfl := List.mem_singleton.mp hz; exact Or.inr ⟨by decide, "java/lang/IndexOutOfBoundsException", (hts (.classLink RL 18 "java/lang/IndexOutOfBoundsException") (List.mem_of_getElem? (i := 1) rfl)), hX_nc hX (by decide)⟩) rfl (by decide) (hts (.classLink RL 13 "java/lang/IllegalArgumentException") (List.mem_of_getElem? (i := 2) rfl)) (hX_cs hX (by decide)) hce hcv hcl ?_
      refine lv_astore (lv' := [(4, .ref (q9)), (0, .ref (ad 0)), (1, .int (x0)), (2, .int (x1)), (3, .ref (q))]) hx hb dL_setLosses_17 hl (by decide) rfl (fun ls hl => ?_)
      refine lv_iconst (v := nI (2)) hx hb dL_setLosses_19 (by decide) ?_
      exact W.iret (v := nI (2)) hx hb hr (fun t ht hW => ⟨⟨_, (wL cL q f (wA cI cZ ad (pat) (sent) (rep) (kept) (rc) (los) (wai) (set) (bad) (gon) (bk) (bp) (bv))), rfl, Or.inr (Or.inr (⟨rfl, hc, rfl⟩)), by rw [ht]; exact hP, hD⟩, hS.F ht⟩) hS.2.2 dL_setLosses_20
  · obtain ⟨hrr, hok⟩ := h
    subst hrr
    have hP : va_P D vwCl (wL cL q f (wA cI cZ ad (pat) (sent) (rep) (kept) (rc) (un los (tn x0) (tn x1)) (wai) (set) (bad) (gon) (bk) (bp) (bv))) H := hP
    have hD : va_D A (wL cL q f (wA cI cZ ad (pat) (sent) (rep) (kept) (rc) (un los (tn x0) (tn x1)) (wai) (set) (bad) (gon) (bk) (bp) (bv))) := hD
    refine lv_i2l (v := (nI (los (tn x0))).toInt64) hx hb dL_setLosses_8 rfl ?_
    refine va_last (f := f) hx hb hK hP hD hS 0 3 rfl rfl (vp_in_nI (by decide) (by decide)) dL_setLosses_9 (fun H locs hP hD hS => ?_)
    have hP : va_P D vwCl (wL cL q (vp_updL f (nI 0).toNatClampNeg (nI (los (tn x0))).toInt64) (wA cI cZ ad (pat) (sent) (rep) (kept) (rc) (un los (tn x0) (tn x1)) (wai) (set) (bad) (gon) (bk) (bp) (bv))) H := hP
    have hD : va_D A (wL cL q (vp_updL f (nI 0).toNatClampNeg (nI (los (tn x0))).toInt64) (wA cI cZ ad (pat) (sent) (rep) (kept) (rc) (un los (tn x0) (tn x1)) (wai) (set) (bad) (gon) (bk) (bp) (bv))) := hD
    refine lv_goto (tgt := 21) hx hb dL_setLosses_10 (by decide) ?_
    refine lv_iconst (v := nI (0)) hx hb dL_setLosses_21 (by decide) ?_
    exact W.iret (v := nI (0)) hx hb hr (fun t ht hW => ⟨⟨_, _, rfl, Or.inl ⟨rfl, hok, _, updL_n _ _, rfl⟩, by rw [ht]; exact hP, hD⟩, hS.F ht⟩) hS.2.2 dL_setLosses_22

set_option maxHeartbeats 4000000 in
set_option maxRecDepth 100000 in
theorem c_L_setWait (l : Launch) (D : va_G) (cI cZ cQ cL : ClassId) (hfl : l.stackTraces = false) (b0 : Nat) (q : Nat) (f : Nat → Int64) (ad : Nat → Nat) (pat : Nat) (sent : Nat) (rep : Nat) (kept : Nat) (rc : Nat) (los : Nat → Nat) (wai : Nat → Nat) (set : Nat → Nat) (bad : Nat → Nat) (gon : Nat → Nat) (bk : Nat) (bp : Nat → B8) (bv : Nat → B8) (x0 : Int32) (x1 : Int32) (sz : Nat) (hrc : rc ≤ 6) : Met l yL_setWait wsL_setWait ({ frames := 8, cells := 2, slots := 12, locals := 140 } : Room) (PX b0 D (TY cI cZ cQ cL) (wL cL q f (wA cI cZ ad (pat) (sent) (rep) (kept) (rc) (los) (wai) (set) (bad) (gon) (bk) (bp) (bv))) sz [.ref (ad 0), .int (x0), .int (x1), .ref (q)]) (QI D (va_A (wL cL q f (wA cI cZ ad (pat) (sent) (rep) (kept) (rc) (los) (wai) (set) (bad) (gon) (bk) (bp) (bv))) sz) (fun z9 (u9 : va_W) => (z9 = nI (0) ∧ ((0 ≤ x0.toInt ∧ x0.toInt < rc) ∧ (0 ≤ x1.toInt ∧ x1.toInt ≤ 20)) ∧ ∃ g : Nat → Int64, g 0 = (nI (wai (tn x0))).toInt64 ∧ u9 = (wL cL q g (wA cI cZ ad (pat) (sent) (rep) (kept) (rc) (los) (un wai (tn x0) (tn x1)) (set) (bad) (gon) (bk) (bp) (bv)))) ∨ (z9 = nI (1) ∧ (¬ (0 ≤ x0.toInt ∧ x0.toInt < rc)) ∧ u9 = (wL cL q f (wA cI cZ ad (pat) (sent) (rep) (kept) (rc) (los) (wai) (set) (bad) (gon) (bk) (bp) (bv)))) ∨ (z9 = nI (2) ∧ ((0 ≤ x0.toInt ∧ x0.toInt < rc) ∧ ¬ (0 ≤ x1.toInt ∧ x1.toInt ≤ 20)) ∧ u9 = (wL cL q f (wA cI cZ ad (pat) (sent) (rep) (kept) (rc) (los) (wai) (set) (bad) (gon) (bk) (bp) (bv))))) (fun u9 => u9)) 2 12 (va_A (wL cL q f (wA cI cZ ad (pat) (sent) (rep) (kept) (rc) (los) (wai) (set) (bad) (gon) (bk) (bp) (bv))) sz) := by
  refine q_ofWH (hh := [(0, 10, 13, 18), (0, 10, 17, 13)]) (cc := cL_setWait) (maxL := 5) (ret := (some .int)) (by decide) rfl ?_
  intro p e s m args below meth c s₁ B hml htab hv
  obtain ⟨rfl, hsz, hP, hK, hD0, hN, hX⟩ := hv
  have hx := B.exec
  have hb := B.bytes
  have hr := B.returns
  have hts := atoms_spec (ws := wsL_setWait) B.pre
  have hown : s.vm.findClass RL = some m.cls := findClass_of_methodNamed B.named
  have hlocks := B.notSynchronized
  subst hsz
  have hD := hD0.self (sz := s.heap.size)
  generalize hAe : va_A (wL cL q f (wA cI cZ ad (pat) (sent) (rep) (kept) (rc) (los) (wai) (set) (bad) (gon) (bk) (bp) (bv))) s.heap.size = A at hD ⊢
  have hA : ∀ q : Nat, s.heap.size ≤ q → A q := fun q h => by rw [← hAe]; exact Or.inr h
  have hS : va_S A s.heap s.heap [] := va_S.rf
  have hl := lv_entry ([.ref (ad 0), .int (x0), .int (x1), .ref (q)]) (n := 5) (Nat.le_of_ble_eq_true rfl)
  rw [lg_entry_eq]
  generalize (lg_sl ([.ref (ad 0), .int (x0), .int (x1), .ref (q)]) ++ List.replicate (5 - (lg_sl ([.ref (ad 0), .int (x0), .int (x1), .ref (q)])).length) Slot.unset).toArray = ls at hl ⊢
  have hl : lv_has ls 5 [(0, .ref (ad 0)), (1, .int (x0)), (2, .int (x1)), (3, .ref (q))] := hl
  refine lv_aload_n hx hb dL_setWait_0 rfl (lv_at hl 3 rfl) ?_
  refine lv_iconst (v := nI (0)) hx hb dL_setWait_1 (by decide) ?_
  refine lv_aload_n hx hb dL_setWait_2 rfl (lv_at hl 0 rfl) ?_
  refine lv_iload_n hx hb dL_setWait_3 rfl (lv_at hl 1 rfl) ?_
  refine lv_iload_n hx hb dL_setWait_4 rfl (lv_at hl 2 rfl) ?_
  have hPc := hP.sub (ws' := (wA cI cZ ad (pat) (sent) (rep) (kept) (rc) (los) (wai) (set) (bad) (gon) (bk) (bp) (bv))) [1, 2, 3, 4, 5, 6, 7, 8, 9] rfl
  have hDc := hD.sub (ws' := (wA cI cZ ad (pat) (sent) (rep) (kept) (rc) (los) (wai) (set) (bad) (gon) (bk) (bp) (bv))) [1, 2, 3, 4, 5, 6, 7, 8, 9] (by decide) rfl
  refine q_xci (wc := (wA cI cZ ad (pat) (sent) (rep) (kept) (rc) (los) (wai) (set) (bad) (gon) (bk) (bp) (bv))) (wr := [(q, .inl (cL, 1, .inr (.inl f)))]) (w1 := fun _ => (wA cI cZ ad (pat) (sent) (rep) (kept) (rc) (los) (un wai (tn x0) (tn x1)) (set) (bad) (gon) (bk) (bp) (bv))) (vx_runV (As := [.int (x0), .int (x1)]) (rest := [.int (nI (0)), .ref (q)]) ⟨hx, hb, hml, hown, hts⟩ (c_X3_setWait l D cI cZ cQ cL hfl b0 (ad) (pat) (sent) (rep) (kept) (rc) (los) (wai) (set) (bad) (gon) (bk) (bp) (bv) (x0) (x1) s.heap.size hrc) (cwV 2 hts gL_setWait_X3_setWait rfl rfl rfl ⟨rfl, hd_X3_setWait⟩ ⟨Nat.le_of_ble_eq_true rfl, Nat.le_of_ble_eq_true rfl⟩) (PX_v (q := (RX3, TX3, 13)) (ci := 2) (q0 := 0) hPc hK hDc hN hX (fun _ _ _ => rfl) rfl rfl) rfl rfl hl.1 rfl (lv_room (Nat.le_of_ble_eq_true rfl)) dL_setWait_5 ⟨Nat.le_of_ble_eq_true rfl, Nat.le_of_ble_eq_true rfl⟩) hP hD hS hA [1, 2, 3, 4, 5, 6, 7, 8, 9] [0] rfl rfl (by decide) (by decide) (fun E ce q9 H locs hE hP hD hS hce hcv hcl => ?_) (fun r H locs h hP hD hS => ?_)
  · rcases hE with ⟨rfl, hc⟩ | ⟨rfl, hc⟩
    · refine vx_catch (own := RL) (name := "java/lang/IndexOutOfBoundsException") hown [] ⟨0, 10, 13, 18⟩ [⟨0, 10, 17, 13⟩] (by rw [htab]; rfl) (fun z hz => by cases hz) rfl (by decide) (hts (.classLink RL 18 "java/lang/IndexOutOfBoundsException") (List.mem_of_getElem? (i := 1) rfl)) (hX_cs hX (by decide)) hce hcv hcl ?_
      refine lv_astore (lv' := [(4, .ref (q9)), (0, .ref (ad 0)), (1, .int (x0)), (2, .int (x1)), (3, .ref (q))]) hx hb dL_setWait_13 hl (by decide) rfl (fun ls hl => ?_)
      refine lv_iconst (v := nI (1)) hx hb dL_setWait_15 (by decide) ?_
      exact W.iret (v := nI (1)) hx hb hr (fun t ht hW => ⟨⟨_, (wL cL q f (wA cI cZ ad (pat) (sent) (rep) (kept) (rc) (los) (wai) (set) (bad) (gon) (bk) (bp) (bv))), rfl, Or.inr (Or.inl ⟨rfl, hc, rfl⟩), by rw [ht]; exact hP, hD⟩, hS.F ht⟩) hS.2.2 dL_setWait_16
    · refine vx_catch (own := RL) (name := "java/lang/IllegalArgumentException") hown [⟨0, 10, 13, 18⟩] ⟨0, 10, 17, 13⟩ [] (by rw [htab]; rfl) (fun z hz => by obtain rfl := List.mem_singleton.mp hz; exact Or.inr ⟨by decide, "java/lang/IndexOutOfBoundsException", (hts (.classLink RL 18 "java/lang/IndexOutOfBoundsException") (List.mem_of_getElem? (i := 1) rfl)), hX_nc hX (by decide)⟩) rfl (by decide) (hts (.classLink RL 13 "java/lang/IllegalArgumentException") (List.mem_of_getElem? (i := 2) rfl)) (hX_cs hX (by decide)) hce hcv hcl ?_
      refine lv_astore (lv' := [(4, .ref (q9)), (0, .ref (ad 0)), (1, .int (x0)), (2, .int (x1)), (3, .ref (q))]) hx hb dL_setWait_17 hl (by decide) rfl (fun ls hl => ?_)
      refine lv_iconst (v := nI (2)) hx hb dL_setWait_19 (by decide) ?_
      exact W.iret (v := nI (2)) hx hb hr (fun t ht hW => ⟨⟨_, (wL cL q f (wA cI cZ ad (pat) (sent) (rep) (kept) (rc) (los) (wai) (set) (bad) (gon) (bk) (bp) (bv))), rfl, Or.inr (Or.inr (⟨rfl, hc, rfl⟩)), by rw [ht]; exact hP, hD⟩, hS.F ht⟩) hS.2.2 dL_setWait_20
  · obtain ⟨hrr, hok⟩ := h
    subst hrr
    have hP : va_P D vwCl (wL cL q f (wA cI cZ ad (pat) (sent) (rep) (kept) (rc) (los) (un wai (tn x0) (tn x1)) (set) (bad) (gon) (bk) (bp) (bv))) H := hP
    have hD : va_D A (wL cL q f (wA cI cZ ad (pat) (sent) (rep) (kept) (rc) (los) (un wai (tn x0) (tn x1)) (set) (bad) (gon) (bk) (bp) (bv))) := hD
    refine lv_i2l (v := (nI (wai (tn x0))).toInt64) hx hb dL_setWait_8 rfl ?_
    refine va_last (f := f) hx hb hK hP hD hS 0 3 rfl rfl (vp_in_nI (by decide) (by decide)) dL_setWait_9 (fun H locs hP hD hS => ?_)
    have hP : va_P D vwCl (wL cL q (vp_updL f (nI 0).toNatClampNeg (nI (wai (tn x0))).toInt64) (wA cI cZ ad (pat) (sent) (rep) (kept) (rc) (los) (un wai (tn x0) (tn x1)) (set) (bad) (gon) (bk) (bp) (bv))) H := hP
    have hD : va_D A (wL cL q (vp_updL f (nI 0).toNatClampNeg (nI (wai (tn x0))).toInt64) (wA cI cZ ad (pat) (sent) (rep) (kept) (rc) (los) (un wai (tn x0) (tn x1)) (set) (bad) (gon) (bk) (bp) (bv))) := hD
    refine lv_goto (tgt := 21) hx hb dL_setWait_10 (by decide) ?_
    refine lv_iconst (v := nI (0)) hx hb dL_setWait_21 (by decide) ?_
    exact W.iret (v := nI (0)) hx hb hr (fun t ht hW => ⟨⟨_, _, rfl, Or.inl ⟨rfl, hok, _, updL_n _ _, rfl⟩, by rw [ht]; exact hP, hD⟩, hS.F ht⟩) hS.2.2 dL_setWait_22

set_option maxHeartbeats 4000000 in
set_option maxRecDepth 100000 in
theorem c_L_send (l : Launch) (D : va_G) (cI cZ cQ cL : ClassId) (hfl : l.stackTraces = false) (b0 : Nat) (q : Nat) (f : Nat → Int64) (ad : Nat → Nat) (pat : Nat) (sent : Nat) (rep : Nat) (kept : Nat) (rc : Nat) (los : Nat → Nat) (wai : Nat → Nat) (set : Nat → Nat) (bad : Nat → Nat) (gon : Nat → Nat) (bk : Nat) (bp : Nat → B8) (bv : Nat → B8) (x0 : Int32) (sz : Nat) (hrc : rc ≤ 6) (hlos : ∀ r, r < 6 → los r ≤ 2047) (hset : ∀ r, r < 6 → set r < 65536) (hgon : ∀ r, r < 6 → gon r ≤ 1) (hbk : bk ≤ 8) (hse : sent ≤ 10000) : Met l yL_send wsL_send ({ frames := 7, cells := 1, slots := 6, locals := 117 } : Room) (PX b0 D (TY cI cZ cQ cL) (wL cL q f (wA cI cZ ad (pat) (sent) (rep) (kept) (rc) (los) (wai) (set) (bad) (gon) (bk) (bp) (bv))) sz [.ref (ad 0), .int (x0), .ref (q)]) (QI D (va_A (wL cL q f (wA cI cZ ad (pat) (sent) (rep) (kept) (rc) (los) (wai) (set) (bad) (gon) (bk) (bp) (bv))) sz) (fun z9 (u9 : va_W) => (z9 = nI (0) ∧ ((1 ≤ x0.toInt ∧ x0.toInt ≤ 16) ∧ (sent : Int) + x0.toInt ≤ 10000) ∧ ∃ g : Nat → Int64, g 0 = (nI (ccn bk (sndM rc sent los gon set (tn x0)) gon rc)).toInt64 ∧ u9 = (wL cL q g (wA cI cZ ad (pat) (sent + tn x0) (rep) (kept) (rc) (los) (wai) (sndM rc sent los gon set (tn x0)) (bad) (gon) (bk) (bp) (bv)))) ∨ (z9 = nI (1) ∧ (¬ (1 ≤ x0.toInt ∧ x0.toInt ≤ 16)) ∧ u9 = (wL cL q f (wA cI cZ ad (pat) (sent) (rep) (kept) (rc) (los) (wai) (set) (bad) (gon) (bk) (bp) (bv)))) ∨ (z9 = nI (2) ∧ ((1 ≤ x0.toInt ∧ x0.toInt ≤ 16) ∧ ¬ ((sent : Int) + x0.toInt ≤ 10000)) ∧ u9 = (wL cL q f (wA cI cZ ad (pat) (sent) (rep) (kept) (rc) (los) (wai) (set) (bad) (gon) (bk) (bp) (bv))))) (fun u9 => u9)) 1 6 (va_A (wL cL q f (wA cI cZ ad (pat) (sent) (rep) (kept) (rc) (los) (wai) (set) (bad) (gon) (bk) (bp) (bv))) sz) := by
  refine q_ofWH (hh := [(0, 9, 12, 13), (0, 9, 15, 20)]) (cc := cL_send) (maxL := 4) (ret := (some .int)) (by decide) rfl ?_
  intro p e s m args below meth c s₁ B hml htab hv
  obtain ⟨rfl, hsz, hP, hK, hD0, hN, hX⟩ := hv
  have hx := B.exec
  have hb := B.bytes
  have hr := B.returns
  have hts := atoms_spec (ws := wsL_send) B.pre
  have hown : s.vm.findClass RL = some m.cls := findClass_of_methodNamed B.named
  have hlocks := B.notSynchronized
  subst hsz
  have hD := hD0.self (sz := s.heap.size)
  generalize hAe : va_A (wL cL q f (wA cI cZ ad (pat) (sent) (rep) (kept) (rc) (los) (wai) (set) (bad) (gon) (bk) (bp) (bv))) s.heap.size = A at hD ⊢
  have hA : ∀ q : Nat, s.heap.size ≤ q → A q := fun q h => by rw [← hAe]; exact Or.inr h
  have hS : va_S A s.heap s.heap [] := va_S.rf
  have hl := lv_entry ([.ref (ad 0), .int (x0), .ref (q)]) (n := 4) (Nat.le_of_ble_eq_true rfl)
  rw [lg_entry_eq]
  generalize (lg_sl ([.ref (ad 0), .int (x0), .ref (q)]) ++ List.replicate (4 - (lg_sl ([.ref (ad 0), .int (x0), .ref (q)])).length) Slot.unset).toArray = ls at hl ⊢
  have hl : lv_has ls 4 [(0, .ref (ad 0)), (1, .int (x0)), (2, .ref (q))] := hl
  refine lv_aload_n hx hb dL_send_0 rfl (lv_at hl 2 rfl) ?_
  refine lv_iconst (v := nI (0)) hx hb dL_send_1 (by decide) ?_
  refine lv_aload_n hx hb dL_send_2 rfl (lv_at hl 0 rfl) ?_
  refine lv_iload_n hx hb dL_send_3 rfl (lv_at hl 1 rfl) ?_
  have hPc := hP.sub (ws' := (wA cI cZ ad (pat) (sent) (rep) (kept) (rc) (los) (wai) (set) (bad) (gon) (bk) (bp) (bv))) [1, 2, 3, 4, 5, 6, 7, 8, 9] rfl
  have hDc := hD.sub (ws' := (wA cI cZ ad (pat) (sent) (rep) (kept) (rc) (los) (wai) (set) (bad) (gon) (bk) (bp) (bv))) [1, 2, 3, 4, 5, 6, 7, 8, 9] (by decide) rfl
  refine q_xci (wc := (wA cI cZ ad (pat) (sent) (rep) (kept) (rc) (los) (wai) (set) (bad) (gon) (bk) (bp) (bv))) (wr := [(q, .inl (cL, 1, .inr (.inl f)))]) (w1 := fun _ => (wA cI cZ ad (pat) (sent + tn x0) (rep) (kept) (rc) (los) (wai) (sndM rc sent los gon set (tn x0)) (bad) (gon) (bk) (bp) (bv))) (vx_runV (As := [.int (x0)]) (rest := [.int (nI (0)), .ref (q)]) ⟨hx, hb, hml, hown, hts⟩ (c_X3_send l D cI cZ cQ cL hfl b0 (ad) (pat) (sent) (rep) (kept) (rc) (los) (wai) (set) (bad) (gon) (bk) (bp) (bv) (x0) s.heap.size hrc hlos hset hgon hbk hse) (cwV 1 hts gL_send_X3_send rfl rfl rfl ⟨rfl, hd_X3_send⟩ ⟨Nat.le_of_ble_eq_true rfl, Nat.le_of_ble_eq_true rfl⟩) (PX_v (q := (RX3, TX3, 13)) (ci := 2) (q0 := 0) hPc hK hDc hN hX (fun _ _ _ => rfl) rfl rfl) rfl rfl hl.1 rfl (lv_room (Nat.le_of_ble_eq_true rfl)) dL_send_4 ⟨Nat.le_of_ble_eq_true rfl, Nat.le_of_ble_eq_true rfl⟩) hP hD hS hA [1, 2, 3, 4, 5, 6, 7, 8, 9] [0] rfl rfl (by decide) (by decide) (fun E ce q9 H locs hE hP hD hS hce hcv hcl => ?_) (fun r H locs h hP hD hS => ?_)
  · rcases hE with ⟨rfl, hc⟩ | ⟨rfl, hc⟩
    · refine vx_catch (own := RL) (name := "java/lang/IllegalArgumentException") hown [] ⟨0, 9, 12, 13⟩ [⟨0, 9, 15, 20⟩] (by rw [htab]; rfl) (fun z hz => by cases hz) rfl (by decide) (hts (.classLink RL 13 "java/lang/IllegalArgumentException") (List.mem_of_getElem? (i := 1) rfl)) (hX_cs hX (by decide)) hce hcv hcl ?_
      refine lv_astore_n (lv' := [(3, .ref (q9)), (0, .ref (ad 0)), (1, .int (x0)), (2, .ref (q))]) hx hb dL_send_12 rfl hl (by decide) rfl (fun ls hl => ?_)
      refine lv_iconst (v := nI (1)) hx hb dL_send_13 (by decide) ?_
      exact W.iret (v := nI (1)) hx hb hr (fun t ht hW => ⟨⟨_, (wL cL q f (wA cI cZ ad (pat) (sent) (rep) (kept) (rc) (los) (wai) (set) (bad) (gon) (bk) (bp) (bv))), rfl, Or.inr (Or.inl ⟨rfl, hc, rfl⟩), by rw [ht]; exact hP, hD⟩, hS.F ht⟩) hS.2.2 dL_send_14
    · refine vx_catch (own := RL) (name := "java/lang/IllegalStateException") hown [⟨0, 9, 12, 13⟩] ⟨0, 9, 15, 20⟩ [] (by rw [htab]; rfl) (fun z hz => by obtain rfl := List.mem_singleton.mp hz; exact Or.inr ⟨by decide, "java/lang/IllegalArgumentException", (hts (.classLink RL 13 "java/lang/IllegalArgumentException") (List.mem_of_getElem? (i := 1) rfl)), hX_nc hX (by decide)⟩) rfl (by decide) (hts (.classLink RL 20 "java/lang/IllegalStateException") (List.mem_of_getElem? (i := 2) rfl)) (hX_cs hX (by decide)) hce hcv hcl ?_
      refine lv_astore_n (lv' := [(3, .ref (q9)), (0, .ref (ad 0)), (1, .int (x0)), (2, .ref (q))]) hx hb dL_send_15 rfl hl (by decide) rfl (fun ls hl => ?_)
      refine lv_iconst (v := nI (2)) hx hb dL_send_16 (by decide) ?_
      exact W.iret (v := nI (2)) hx hb hr (fun t ht hW => ⟨⟨_, (wL cL q f (wA cI cZ ad (pat) (sent) (rep) (kept) (rc) (los) (wai) (set) (bad) (gon) (bk) (bp) (bv))), rfl, Or.inr (Or.inr (⟨rfl, hc, rfl⟩)), by rw [ht]; exact hP, hD⟩, hS.F ht⟩) hS.2.2 dL_send_17
  · obtain ⟨hrr, hok⟩ := h
    subst hrr
    have hP : va_P D vwCl (wL cL q f (wA cI cZ ad (pat) (sent + tn x0) (rep) (kept) (rc) (los) (wai) (sndM rc sent los gon set (tn x0)) (bad) (gon) (bk) (bp) (bv))) H := hP
    have hD : va_D A (wL cL q f (wA cI cZ ad (pat) (sent + tn x0) (rep) (kept) (rc) (los) (wai) (sndM rc sent los gon set (tn x0)) (bad) (gon) (bk) (bp) (bv))) := hD
    refine lv_i2l (v := (nI (ccn bk (sndM rc sent los gon set (tn x0)) gon rc)).toInt64) hx hb dL_send_7 rfl ?_
    refine va_last (f := f) hx hb hK hP hD hS 0 3 rfl rfl (vp_in_nI (by decide) (by decide)) dL_send_8 (fun H locs hP hD hS => ?_)
    have hP : va_P D vwCl (wL cL q (vp_updL f (nI 0).toNatClampNeg (nI (ccn bk (sndM rc sent los gon set (tn x0)) gon rc)).toInt64) (wA cI cZ ad (pat) (sent + tn x0) (rep) (kept) (rc) (los) (wai) (sndM rc sent los gon set (tn x0)) (bad) (gon) (bk) (bp) (bv))) H := hP
    have hD : va_D A (wL cL q (vp_updL f (nI 0).toNatClampNeg (nI (ccn bk (sndM rc sent los gon set (tn x0)) gon rc)).toInt64) (wA cI cZ ad (pat) (sent + tn x0) (rep) (kept) (rc) (los) (wai) (sndM rc sent los gon set (tn x0)) (bad) (gon) (bk) (bp) (bv))) := hD
    refine lv_goto (tgt := 18) hx hb dL_send_9 (by decide) ?_
    refine lv_iconst (v := nI (0)) hx hb dL_send_18 (by decide) ?_
    exact W.iret (v := nI (0)) hx hb hr (fun t ht hW => ⟨⟨_, _, rfl, Or.inl ⟨rfl, hok, _, updL_n _ _, rfl⟩, by rw [ht]; exact hP, hD⟩, hS.F ht⟩) hS.2.2 dL_send_19

set_option maxHeartbeats 4000000 in
set_option maxRecDepth 100000 in
theorem c_L_round (l : Launch) (D : va_G) (cI cZ cQ cL : ClassId) (hfl : l.stackTraces = false) (b0 : Nat) (q : Nat) (f : Nat → Int64) (ad : Nat → Nat) (pat : Nat) (sent : Nat) (rep : Nat) (kept : Nat) (rc : Nat) (los : Nat → Nat) (wai : Nat → Nat) (set : Nat → Nat) (bad : Nat → Nat) (gon : Nat → Nat) (bk : Nat) (bp : Nat → B8) (bv : Nat → B8) (sz : Nat) (hrc : rc ≤ 6) (hlos : ∀ r, r < 6 → los r ≤ 2047) (hwai : ∀ r, r < 6 → wai r ≤ 20) (hset : ∀ r, r < 6 → set r < 65536) (hbad : ∀ r, r < 6 → bad r ≤ 20) (hgon : ∀ r, r < 6 → gon r ≤ 1) (hbk : bk ≤ 8) (hpa : pat ≤ 20) (hse : sent ≤ 10000) : Met l yL_round wsL_round ({ frames := 7, cells := 1, slots := 6, locals := 130 } : Room) (PX b0 D (TY cI cZ cQ cL) (wL cL q f (wA cI cZ ad (pat) (sent) (rep) (kept) (rc) (los) (wai) (set) (bad) (gon) (bk) (bp) (bv))) sz [.ref (ad 0), .ref (q)]) (QI D (va_A (wL cL q f (wA cI cZ ad (pat) (sent) (rep) (kept) (rc) (los) (wai) (set) (bad) (gon) (bk) (bp) (bv))) sz) (fun z9 (u9 : va_W) => (z9 = nI (0) ∧ (sent ≤ 9992) ∧ ∃ g : Nat → Int64, g 0 = (nI (rnH (ndf bk set gon) wai rc 21)).toInt64 ∧ u9 = (wL cL q g (wA cI cZ ad (pat) (sent + rnH (ndf bk set gon) wai rc 21) (rep + rnR (ndf bk set gon) wai rc 21) (kept + rnK (ndf bk set gon) wai rc 21) (rc) (los) (wai) (sndM rc sent los gon set (rnH (ndf bk set gon) wai rc 21)) (bdB rc bk (sndM rc sent los gon set (rnH (ndf bk set gon) wai rc 21)) gon bad) (bdG rc bk pat (sndM rc sent los gon set (rnH (ndf bk set gon) wai rc 21)) gon bad) (bk) (bp) (bv)))) ∨ (z9 = nI (1) ∧ (¬ (sent ≤ 9992)) ∧ u9 = (wL cL q f (wA cI cZ ad (pat) (sent) (rep) (kept) (rc) (los) (wai) (set) (bad) (gon) (bk) (bp) (bv))))) (fun u9 => u9)) 1 6 (va_A (wL cL q f (wA cI cZ ad (pat) (sent) (rep) (kept) (rc) (los) (wai) (set) (bad) (gon) (bk) (bp) (bv))) sz) := by
  refine q_ofWH (hh := [(0, 8, 11, 20)]) (cc := cL_round) (maxL := 3) (ret := (some .int)) (by decide) rfl ?_
  intro p e s m args below meth c s₁ B hml htab hv
  obtain ⟨rfl, hsz, hP, hK, hD0, hN, hX⟩ := hv
  have hx := B.exec
  have hb := B.bytes
  have hr := B.returns
  have hts := atoms_spec (ws := wsL_round) B.pre
  have hown : s.vm.findClass RL = some m.cls := findClass_of_methodNamed B.named
  have hlocks := B.notSynchronized
  subst hsz
  have hD := hD0.self (sz := s.heap.size)
  generalize hAe : va_A (wL cL q f (wA cI cZ ad (pat) (sent) (rep) (kept) (rc) (los) (wai) (set) (bad) (gon) (bk) (bp) (bv))) s.heap.size = A at hD ⊢
  have hA : ∀ q : Nat, s.heap.size ≤ q → A q := fun q h => by rw [← hAe]; exact Or.inr h
  have hS : va_S A s.heap s.heap [] := va_S.rf
  have hl := lv_entry ([.ref (ad 0), .ref (q)]) (n := 3) (Nat.le_of_ble_eq_true rfl)
  rw [lg_entry_eq]
  generalize (lg_sl ([.ref (ad 0), .ref (q)]) ++ List.replicate (3 - (lg_sl ([.ref (ad 0), .ref (q)])).length) Slot.unset).toArray = ls at hl ⊢
  have hl : lv_has ls 3 [(0, .ref (ad 0)), (1, .ref (q))] := hl
  refine lv_aload_n hx hb dL_round_0 rfl (lv_at hl 1 rfl) ?_
  refine lv_iconst (v := nI (0)) hx hb dL_round_1 (by decide) ?_
  refine lv_aload_n hx hb dL_round_2 rfl (lv_at hl 0 rfl) ?_
  have hPc := hP.sub (ws' := (wA cI cZ ad (pat) (sent) (rep) (kept) (rc) (los) (wai) (set) (bad) (gon) (bk) (bp) (bv))) [1, 2, 3, 4, 5, 6, 7, 8, 9] rfl
  have hDc := hD.sub (ws' := (wA cI cZ ad (pat) (sent) (rep) (kept) (rc) (los) (wai) (set) (bad) (gon) (bk) (bp) (bv))) [1, 2, 3, 4, 5, 6, 7, 8, 9] (by decide) rfl
  refine q_xci (wc := (wA cI cZ ad (pat) (sent) (rep) (kept) (rc) (los) (wai) (set) (bad) (gon) (bk) (bp) (bv))) (wr := [(q, .inl (cL, 1, .inr (.inl f)))]) (w1 := fun _ => (wA cI cZ ad (pat) (sent + rnH (ndf bk set gon) wai rc 21) (rep + rnR (ndf bk set gon) wai rc 21) (kept + rnK (ndf bk set gon) wai rc 21) (rc) (los) (wai) (sndM rc sent los gon set (rnH (ndf bk set gon) wai rc 21)) (bdB rc bk (sndM rc sent los gon set (rnH (ndf bk set gon) wai rc 21)) gon bad) (bdG rc bk pat (sndM rc sent los gon set (rnH (ndf bk set gon) wai rc 21)) gon bad) (bk) (bp) (bv))) (vx_runV (As := []) (rest := [.int (nI (0)), .ref (q)]) ⟨hx, hb, hml, hown, hts⟩ (c_X3_round l D cI cZ cQ cL hfl b0 (ad) (pat) (sent) (rep) (kept) (rc) (los) (wai) (set) (bad) (gon) (bk) (bp) (bv) s.heap.size hrc hlos hwai hset hbad hgon hbk hpa hse) (cwV 0 hts gL_round_X3_round rfl rfl rfl ⟨rfl, hd_X3_round⟩ ⟨Nat.le_of_ble_eq_true rfl, Nat.le_of_ble_eq_true rfl⟩) (PX_v (q := (RX3, TX3, 13)) (ci := 2) (q0 := 0) hPc hK hDc hN hX (fun _ _ _ => rfl) rfl rfl) rfl rfl hl.1 rfl (lv_room (Nat.le_of_ble_eq_true rfl)) dL_round_3 ⟨Nat.le_of_ble_eq_true rfl, Nat.le_of_ble_eq_true rfl⟩) hP hD hS hA [1, 2, 3, 4, 5, 6, 7, 8, 9] [0] rfl rfl (by decide) (by decide) (fun E ce q9 H locs hE hP hD hS hce hcv hcl => ?_) (fun r H locs h hP hD hS => ?_)
  · obtain ⟨rfl, hc⟩ := hE
    refine vx_catch (own := RL) (name := "java/lang/IllegalStateException") hown [] ⟨0, 8, 11, 20⟩ [] (by rw [htab]; rfl) (fun z hz => by cases hz) rfl (by decide) (hts (.classLink RL 20 "java/lang/IllegalStateException") (List.mem_of_getElem? (i := 1) rfl)) (hX_cs hX (by decide)) hce hcv hcl ?_
    refine lv_astore_n (lv' := [(2, .ref (q9)), (0, .ref (ad 0)), (1, .ref (q))]) hx hb dL_round_11 rfl hl (by decide) rfl (fun ls hl => ?_)
    refine lv_iconst (v := nI (1)) hx hb dL_round_12 (by decide) ?_
    exact W.iret (v := nI (1)) hx hb hr (fun t ht hW => ⟨⟨_, (wL cL q f (wA cI cZ ad (pat) (sent) (rep) (kept) (rc) (los) (wai) (set) (bad) (gon) (bk) (bp) (bv))), rfl, Or.inr (⟨rfl, hc, rfl⟩), by rw [ht]; exact hP, hD⟩, hS.F ht⟩) hS.2.2 dL_round_13
  · obtain ⟨hrr, hok⟩ := h
    subst hrr
    have hP : va_P D vwCl (wL cL q f (wA cI cZ ad (pat) (sent + rnH (ndf bk set gon) wai rc 21) (rep + rnR (ndf bk set gon) wai rc 21) (kept + rnK (ndf bk set gon) wai rc 21) (rc) (los) (wai) (sndM rc sent los gon set (rnH (ndf bk set gon) wai rc 21)) (bdB rc bk (sndM rc sent los gon set (rnH (ndf bk set gon) wai rc 21)) gon bad) (bdG rc bk pat (sndM rc sent los gon set (rnH (ndf bk set gon) wai rc 21)) gon bad) (bk) (bp) (bv))) H := hP
    have hD : va_D A (wL cL q f (wA cI cZ ad (pat) (sent + rnH (ndf bk set gon) wai rc 21) (rep + rnR (ndf bk set gon) wai rc 21) (kept + rnK (ndf bk set gon) wai rc 21) (rc) (los) (wai) (sndM rc sent los gon set (rnH (ndf bk set gon) wai rc 21)) (bdB rc bk (sndM rc sent los gon set (rnH (ndf bk set gon) wai rc 21)) gon bad) (bdG rc bk pat (sndM rc sent los gon set (rnH (ndf bk set gon) wai rc 21)) gon bad) (bk) (bp) (bv))) := hD
    refine lv_i2l (v := (nI (rnH (ndf bk set gon) wai rc 21)).toInt64) hx hb dL_round_6 rfl ?_
    refine va_last (f := f) hx hb hK hP hD hS 0 3 rfl rfl (vp_in_nI (by decide) (by decide)) dL_round_7 (fun H locs hP hD hS => ?_)
    have hP : va_P D vwCl (wL cL q (vp_updL f (nI 0).toNatClampNeg (nI (rnH (ndf bk set gon) wai rc 21)).toInt64) (wA cI cZ ad (pat) (sent + rnH (ndf bk set gon) wai rc 21) (rep + rnR (ndf bk set gon) wai rc 21) (kept + rnK (ndf bk set gon) wai rc 21) (rc) (los) (wai) (sndM rc sent los gon set (rnH (ndf bk set gon) wai rc 21)) (bdB rc bk (sndM rc sent los gon set (rnH (ndf bk set gon) wai rc 21)) gon bad) (bdG rc bk pat (sndM rc sent los gon set (rnH (ndf bk set gon) wai rc 21)) gon bad) (bk) (bp) (bv))) H := hP
    have hD : va_D A (wL cL q (vp_updL f (nI 0).toNatClampNeg (nI (rnH (ndf bk set gon) wai rc 21)).toInt64) (wA cI cZ ad (pat) (sent + rnH (ndf bk set gon) wai rc 21) (rep + rnR (ndf bk set gon) wai rc 21) (kept + rnK (ndf bk set gon) wai rc 21) (rc) (los) (wai) (sndM rc sent los gon set (rnH (ndf bk set gon) wai rc 21)) (bdB rc bk (sndM rc sent los gon set (rnH (ndf bk set gon) wai rc 21)) gon bad) (bdG rc bk pat (sndM rc sent los gon set (rnH (ndf bk set gon) wai rc 21)) gon bad) (bk) (bp) (bv))) := hD
    refine lv_goto (tgt := 14) hx hb dL_round_8 (by decide) ?_
    refine lv_iconst (v := nI (0)) hx hb dL_round_14 (by decide) ?_
    exact W.iret (v := nI (0)) hx hb hr (fun t ht hW => ⟨⟨_, _, rfl, Or.inl ⟨rfl, hok, _, updL_n _ _, rfl⟩, by rw [ht]; exact hP, hD⟩, hS.F ht⟩) hS.2.2 dL_round_15

set_option maxHeartbeats 4000000 in
set_option maxRecDepth 100000 in
theorem c_L_has (l : Launch) (D : va_G) (cI cZ cQ cL : ClassId) (hfl : l.stackTraces = false) (b0 : Nat) (q : Nat) (f : Nat → Int64) (ad : Nat → Nat) (pat : Nat) (sent : Nat) (rep : Nat) (kept : Nat) (rc : Nat) (los : Nat → Nat) (wai : Nat → Nat) (set : Nat → Nat) (bad : Nat → Nat) (gon : Nat → Nat) (bk : Nat) (bp : Nat → B8) (bv : Nat → B8) (x0 : Int32) (sz : Nat) (hrc : rc ≤ 6) (hgon : ∀ r, r < 6 → gon r ≤ 1) : Met l yL_has wsL_has ({ frames := 8, cells := 1, slots := 6, locals := 138 } : Room) (PX b0 D (TY cI cZ cQ cL) (wL cL q f (wA cI cZ ad (pat) (sent) (rep) (kept) (rc) (los) (wai) (set) (bad) (gon) (bk) (bp) (bv))) sz [.ref (ad 0), .int (x0), .ref (q)]) (QI D (va_A (wL cL q f (wA cI cZ ad (pat) (sent) (rep) (kept) (rc) (los) (wai) (set) (bad) (gon) (bk) (bp) (bv))) sz) (fun z9 (u9 : va_W) => (z9 = nI (0) ∧ (0 ≤ x0.toInt ∧ x0.toInt < rc) ∧ ∃ g : Nat → Int64, g 0 = (nI (set (tn x0))).toInt64 ∧ u9 = (wL cL q g (wA cI cZ ad (pat) (sent) (rep) (kept) (rc) (los) (wai) (set) (bad) (gon) (bk) (bp) (bv)))) ∨ (z9 = nI (1) ∧ (¬ (0 ≤ x0.toInt ∧ x0.toInt < rc)) ∧ u9 = (wL cL q f (wA cI cZ ad (pat) (sent) (rep) (kept) (rc) (los) (wai) (set) (bad) (gon) (bk) (bp) (bv))))) (fun u9 => u9)) 1 6 (va_A (wL cL q f (wA cI cZ ad (pat) (sent) (rep) (kept) (rc) (los) (wai) (set) (bad) (gon) (bk) (bp) (bv))) sz) := by
  refine q_ofWH (hh := [(0, 9, 12, 18)]) (cc := cL_has) (maxL := 4) (ret := (some .int)) (by decide) rfl ?_
  intro p e s m args below meth c s₁ B hml htab hv
  obtain ⟨rfl, hsz, hP, hK, hD0, hN, hX⟩ := hv
  have hx := B.exec
  have hb := B.bytes
  have hr := B.returns
  have hts := atoms_spec (ws := wsL_has) B.pre
  have hown : s.vm.findClass RL = some m.cls := findClass_of_methodNamed B.named
  have hlocks := B.notSynchronized
  subst hsz
  have hD := hD0.self (sz := s.heap.size)
  generalize hAe : va_A (wL cL q f (wA cI cZ ad (pat) (sent) (rep) (kept) (rc) (los) (wai) (set) (bad) (gon) (bk) (bp) (bv))) s.heap.size = A at hD ⊢
  have hA : ∀ q : Nat, s.heap.size ≤ q → A q := fun q h => by rw [← hAe]; exact Or.inr h
  have hS : va_S A s.heap s.heap [] := va_S.rf
  have hl := lv_entry ([.ref (ad 0), .int (x0), .ref (q)]) (n := 4) (Nat.le_of_ble_eq_true rfl)
  rw [lg_entry_eq]
  generalize (lg_sl ([.ref (ad 0), .int (x0), .ref (q)]) ++ List.replicate (4 - (lg_sl ([.ref (ad 0), .int (x0), .ref (q)])).length) Slot.unset).toArray = ls at hl ⊢
  have hl : lv_has ls 4 [(0, .ref (ad 0)), (1, .int (x0)), (2, .ref (q))] := hl
  refine lv_aload_n hx hb dL_has_0 rfl (lv_at hl 2 rfl) ?_
  refine lv_iconst (v := nI (0)) hx hb dL_has_1 (by decide) ?_
  refine lv_aload_n hx hb dL_has_2 rfl (lv_at hl 0 rfl) ?_
  refine lv_iload_n hx hb dL_has_3 rfl (lv_at hl 1 rfl) ?_
  have hPc := hP.sub (ws' := (wA cI cZ ad (pat) (sent) (rep) (kept) (rc) (los) (wai) (set) (bad) (gon) (bk) (bp) (bv))) [1, 2, 3, 4, 5, 6, 7, 8, 9] rfl
  have hDc := hD.sub (ws' := (wA cI cZ ad (pat) (sent) (rep) (kept) (rc) (los) (wai) (set) (bad) (gon) (bk) (bp) (bv))) [1, 2, 3, 4, 5, 6, 7, 8, 9] (by decide) rfl
  refine q_xcsi (vx_runV (As := [.int (x0)]) (rest := [.int (nI (0)), .ref (q)]) ⟨hx, hb, hml, hown, hts⟩ (c_X3_has l D cI cZ cQ cL hfl b0 (ad) (pat) (sent) (rep) (kept) (rc) (los) (wai) (set) (bad) (gon) (bk) (bp) (bv) (x0) s.heap.size hrc hgon) (cwV 1 hts gL_has_X3_has rfl rfl rfl ⟨rfl, hd_X3_has⟩ ⟨Nat.le_of_ble_eq_true rfl, Nat.le_of_ble_eq_true rfl⟩) (PX_v (q := (RX3, TX3, 13)) (ci := 2) (q0 := 0) hPc hK hDc hN hX (fun _ _ _ => rfl) rfl rfl) rfl rfl hl.1 rfl (lv_room (Nat.le_of_ble_eq_true rfl)) dL_has_4 ⟨Nat.le_of_ble_eq_true rfl, Nat.le_of_ble_eq_true rfl⟩) hP hD hS (fun E ce q9 H locs hE hP hD hS hce hcv hcl => ?_) (fun r h => ?_)
  · obtain ⟨rfl, hc⟩ := hE
    refine vx_catch (own := RL) (name := "java/lang/IndexOutOfBoundsException") hown [] ⟨0, 9, 12, 18⟩ [] (by rw [htab]; rfl) (fun z hz => by cases hz) rfl (by decide) (hts (.classLink RL 18 "java/lang/IndexOutOfBoundsException") (List.mem_of_getElem? (i := 1) rfl)) (hX_cs hX (by decide)) hce hcv hcl ?_
    refine lv_astore_n (lv' := [(3, .ref (q9)), (0, .ref (ad 0)), (1, .int (x0)), (2, .ref (q))]) hx hb dL_has_12 rfl hl (by decide) rfl (fun ls hl => ?_)
    refine lv_iconst (v := nI (1)) hx hb dL_has_13 (by decide) ?_
    exact W.iret (v := nI (1)) hx hb hr (fun t ht hW => ⟨⟨_, (wL cL q f (wA cI cZ ad (pat) (sent) (rep) (kept) (rc) (los) (wai) (set) (bad) (gon) (bk) (bp) (bv))), rfl, Or.inr (⟨rfl, hc, rfl⟩), by rw [ht]; exact hP, hD⟩, hS.F ht⟩) hS.2.2 dL_has_14
  · obtain ⟨hrr, hok⟩ := h
    subst hrr
    refine lv_i2l (v := (nI (set (tn x0))).toInt64) hx hb dL_has_7 rfl ?_
    refine va_last (f := f) hx hb hK hP hD hS 0 3 rfl rfl (vp_in_nI (by decide) (by decide)) dL_has_8 (fun H locs hP hD hS => ?_)
    have hP : va_P D vwCl (wL cL q (vp_updL f (nI 0).toNatClampNeg (nI (set (tn x0))).toInt64) (wA cI cZ ad (pat) (sent) (rep) (kept) (rc) (los) (wai) (set) (bad) (gon) (bk) (bp) (bv))) H := hP
    have hD : va_D A (wL cL q (vp_updL f (nI 0).toNatClampNeg (nI (set (tn x0))).toInt64) (wA cI cZ ad (pat) (sent) (rep) (kept) (rc) (los) (wai) (set) (bad) (gon) (bk) (bp) (bv))) := hD
    refine lv_goto (tgt := 15) hx hb dL_has_9 (by decide) ?_
    refine lv_iconst (v := nI (0)) hx hb dL_has_15 (by decide) ?_
    exact W.iret (v := nI (0)) hx hb hr (fun t ht hW => ⟨⟨_, _, rfl, Or.inl ⟨rfl, hok, _, updL_n _ _, rfl⟩, by rw [ht]; exact hP, hD⟩, hS.F ht⟩) hS.2.2 dL_has_16

set_option maxHeartbeats 4000000 in
set_option maxRecDepth 100000 in
theorem c_L_need (l : Launch) (D : va_G) (cI cZ cQ cL : ClassId) (hfl : l.stackTraces = false) (b0 : Nat) (q : Nat) (f : Nat → Int64) (ad : Nat → Nat) (pat : Nat) (sent : Nat) (rep : Nat) (kept : Nat) (rc : Nat) (los : Nat → Nat) (wai : Nat → Nat) (set : Nat → Nat) (bad : Nat → Nat) (gon : Nat → Nat) (bk : Nat) (bp : Nat → B8) (bv : Nat → B8) (x0 : Int32) (sz : Nat) (hrc : rc ≤ 6) (hset : ∀ r, r < 6 → set r < 65536) (hbk : bk ≤ 8) : Met l yL_need wsL_need ({ frames := 8, cells := 1, slots := 6, locals := 138 } : Room) (PX b0 D (TY cI cZ cQ cL) (wL cL q f (wA cI cZ ad (pat) (sent) (rep) (kept) (rc) (los) (wai) (set) (bad) (gon) (bk) (bp) (bv))) sz [.ref (ad 0), .int (x0), .ref (q)]) (QI D (va_A (wL cL q f (wA cI cZ ad (pat) (sent) (rep) (kept) (rc) (los) (wai) (set) (bad) (gon) (bk) (bp) (bv))) sz) (fun z9 (u9 : va_W) => (z9 = nI (0) ∧ (0 ≤ x0.toInt ∧ x0.toInt < rc) ∧ ∃ g : Nat → Int64, g 0 = (nI (bk - pc (set (tn x0)))).toInt64 ∧ u9 = (wL cL q g (wA cI cZ ad (pat) (sent) (rep) (kept) (rc) (los) (wai) (set) (bad) (gon) (bk) (bp) (bv)))) ∨ (z9 = nI (1) ∧ (¬ (0 ≤ x0.toInt ∧ x0.toInt < rc)) ∧ u9 = (wL cL q f (wA cI cZ ad (pat) (sent) (rep) (kept) (rc) (los) (wai) (set) (bad) (gon) (bk) (bp) (bv))))) (fun u9 => u9)) 1 6 (va_A (wL cL q f (wA cI cZ ad (pat) (sent) (rep) (kept) (rc) (los) (wai) (set) (bad) (gon) (bk) (bp) (bv))) sz) := by
  refine q_ofWH (hh := [(0, 9, 12, 18)]) (cc := cL_need) (maxL := 4) (ret := (some .int)) (by decide) rfl ?_
  intro p e s m args below meth c s₁ B hml htab hv
  obtain ⟨rfl, hsz, hP, hK, hD0, hN, hX⟩ := hv
  have hx := B.exec
  have hb := B.bytes
  have hr := B.returns
  have hts := atoms_spec (ws := wsL_need) B.pre
  have hown : s.vm.findClass RL = some m.cls := findClass_of_methodNamed B.named
  have hlocks := B.notSynchronized
  subst hsz
  have hD := hD0.self (sz := s.heap.size)
  generalize hAe : va_A (wL cL q f (wA cI cZ ad (pat) (sent) (rep) (kept) (rc) (los) (wai) (set) (bad) (gon) (bk) (bp) (bv))) s.heap.size = A at hD ⊢
  have hA : ∀ q : Nat, s.heap.size ≤ q → A q := fun q h => by rw [← hAe]; exact Or.inr h
  have hS : va_S A s.heap s.heap [] := va_S.rf
  have hl := lv_entry ([.ref (ad 0), .int (x0), .ref (q)]) (n := 4) (Nat.le_of_ble_eq_true rfl)
  rw [lg_entry_eq]
  generalize (lg_sl ([.ref (ad 0), .int (x0), .ref (q)]) ++ List.replicate (4 - (lg_sl ([.ref (ad 0), .int (x0), .ref (q)])).length) Slot.unset).toArray = ls at hl ⊢
  have hl : lv_has ls 4 [(0, .ref (ad 0)), (1, .int (x0)), (2, .ref (q))] := hl
  refine lv_aload_n hx hb dL_need_0 rfl (lv_at hl 2 rfl) ?_
  refine lv_iconst (v := nI (0)) hx hb dL_need_1 (by decide) ?_
  refine lv_aload_n hx hb dL_need_2 rfl (lv_at hl 0 rfl) ?_
  refine lv_iload_n hx hb dL_need_3 rfl (lv_at hl 1 rfl) ?_
  have hPc := hP.sub (ws' := (wA cI cZ ad (pat) (sent) (rep) (kept) (rc) (los) (wai) (set) (bad) (gon) (bk) (bp) (bv))) [1, 2, 3, 4, 5, 6, 7, 8, 9] rfl
  have hDc := hD.sub (ws' := (wA cI cZ ad (pat) (sent) (rep) (kept) (rc) (los) (wai) (set) (bad) (gon) (bk) (bp) (bv))) [1, 2, 3, 4, 5, 6, 7, 8, 9] (by decide) rfl
  refine q_xcsi (vx_runV (As := [.int (x0)]) (rest := [.int (nI (0)), .ref (q)]) ⟨hx, hb, hml, hown, hts⟩ (c_X3_need l D cI cZ cQ cL hfl b0 (ad) (pat) (sent) (rep) (kept) (rc) (los) (wai) (set) (bad) (gon) (bk) (bp) (bv) (x0) s.heap.size hrc hset hbk) (cwV 1 hts gL_need_X3_need rfl rfl rfl ⟨rfl, hd_X3_need⟩ ⟨Nat.le_of_ble_eq_true rfl, Nat.le_of_ble_eq_true rfl⟩) (PX_v (q := (RX3, TX3, 13)) (ci := 2) (q0 := 0) hPc hK hDc hN hX (fun _ _ _ => rfl) rfl rfl) rfl rfl hl.1 rfl (lv_room (Nat.le_of_ble_eq_true rfl)) dL_need_4 ⟨Nat.le_of_ble_eq_true rfl, Nat.le_of_ble_eq_true rfl⟩) hP hD hS (fun E ce q9 H locs hE hP hD hS hce hcv hcl => ?_) (fun r h => ?_)
  · obtain ⟨rfl, hc⟩ := hE
    refine vx_catch (own := RL) (name := "java/lang/IndexOutOfBoundsException") hown [] ⟨0, 9, 12, 18⟩ [] (by rw [htab]; rfl) (fun z hz => by cases hz) rfl (by decide) (hts (.classLink RL 18 "java/lang/IndexOutOfBoundsException") (List.mem_of_getElem? (i := 1) rfl)) (hX_cs hX (by decide)) hce hcv hcl ?_
    refine lv_astore_n (lv' := [(3, .ref (q9)), (0, .ref (ad 0)), (1, .int (x0)), (2, .ref (q))]) hx hb dL_need_12 rfl hl (by decide) rfl (fun ls hl => ?_)
    refine lv_iconst (v := nI (1)) hx hb dL_need_13 (by decide) ?_
    exact W.iret (v := nI (1)) hx hb hr (fun t ht hW => ⟨⟨_, (wL cL q f (wA cI cZ ad (pat) (sent) (rep) (kept) (rc) (los) (wai) (set) (bad) (gon) (bk) (bp) (bv))), rfl, Or.inr (⟨rfl, hc, rfl⟩), by rw [ht]; exact hP, hD⟩, hS.F ht⟩) hS.2.2 dL_need_14
  · obtain ⟨hrr, hok⟩ := h
    subst hrr
    refine lv_i2l (v := (nI (bk - pc (set (tn x0)))).toInt64) hx hb dL_need_7 rfl ?_
    refine va_last (f := f) hx hb hK hP hD hS 0 3 rfl rfl (vp_in_nI (by decide) (by decide)) dL_need_8 (fun H locs hP hD hS => ?_)
    have hP : va_P D vwCl (wL cL q (vp_updL f (nI 0).toNatClampNeg (nI (bk - pc (set (tn x0)))).toInt64) (wA cI cZ ad (pat) (sent) (rep) (kept) (rc) (los) (wai) (set) (bad) (gon) (bk) (bp) (bv))) H := hP
    have hD : va_D A (wL cL q (vp_updL f (nI 0).toNatClampNeg (nI (bk - pc (set (tn x0)))).toInt64) (wA cI cZ ad (pat) (sent) (rep) (kept) (rc) (los) (wai) (set) (bad) (gon) (bk) (bp) (bv))) := hD
    refine lv_goto (tgt := 15) hx hb dL_need_9 (by decide) ?_
    refine lv_iconst (v := nI (0)) hx hb dL_need_15 (by decide) ?_
    exact W.iret (v := nI (0)) hx hb hr (fun t ht hW => ⟨⟨_, _, rfl, Or.inl ⟨rfl, hok, _, updL_n _ _, rfl⟩, by rw [ht]; exact hP, hD⟩, hS.F ht⟩) hS.2.2 dL_need_16

set_option maxHeartbeats 4000000 in
set_option maxRecDepth 100000 in
theorem c_L_isDropped (l : Launch) (D : va_G) (cI cZ cQ cL : ClassId) (hfl : l.stackTraces = false) (b0 : Nat) (q : Nat) (f : Nat → Int64) (ad : Nat → Nat) (pat : Nat) (sent : Nat) (rep : Nat) (kept : Nat) (rc : Nat) (los : Nat → Nat) (wai : Nat → Nat) (set : Nat → Nat) (bad : Nat → Nat) (gon : Nat → Nat) (bk : Nat) (bp : Nat → B8) (bv : Nat → B8) (x0 : Int32) (sz : Nat) (hrc : rc ≤ 6) (hgon : ∀ r, r < 6 → gon r ≤ 1) : Met l yL_isDropped wsL_isDropped ({ frames := 8, cells := 1, slots := 6, locals := 138 } : Room) (PX b0 D (TY cI cZ cQ cL) (wL cL q f (wA cI cZ ad (pat) (sent) (rep) (kept) (rc) (los) (wai) (set) (bad) (gon) (bk) (bp) (bv))) sz [.ref (ad 0), .int (x0), .ref (q)]) (QI D (va_A (wL cL q f (wA cI cZ ad (pat) (sent) (rep) (kept) (rc) (los) (wai) (set) (bad) (gon) (bk) (bp) (bv))) sz) (fun z9 (u9 : va_W) => (z9 = nI (0) ∧ (0 ≤ x0.toInt ∧ x0.toInt < rc) ∧ ∃ g : Nat → Int64, g 0 = (nI (gon (tn x0))).toInt64 ∧ u9 = (wL cL q g (wA cI cZ ad (pat) (sent) (rep) (kept) (rc) (los) (wai) (set) (bad) (gon) (bk) (bp) (bv)))) ∨ (z9 = nI (1) ∧ (¬ (0 ≤ x0.toInt ∧ x0.toInt < rc)) ∧ u9 = (wL cL q f (wA cI cZ ad (pat) (sent) (rep) (kept) (rc) (los) (wai) (set) (bad) (gon) (bk) (bp) (bv))))) (fun u9 => u9)) 1 6 (va_A (wL cL q f (wA cI cZ ad (pat) (sent) (rep) (kept) (rc) (los) (wai) (set) (bad) (gon) (bk) (bp) (bv))) sz) := by
  refine q_ofWH (hh := [(0, 16, 19, 18)]) (cc := cL_isDropped) (maxL := 4) (ret := (some .int)) (by decide) rfl ?_
  intro p e s m args below meth c s₁ B hml htab hv
  obtain ⟨rfl, hsz, hP, hK, hD0, hN, hX⟩ := hv
  have hx := B.exec
  have hb := B.bytes
  have hr := B.returns
  have hts := atoms_spec (ws := wsL_isDropped) B.pre
  have hown : s.vm.findClass RL = some m.cls := findClass_of_methodNamed B.named
  have hlocks := B.notSynchronized
  subst hsz
  have hD := hD0.self (sz := s.heap.size)
  generalize hAe : va_A (wL cL q f (wA cI cZ ad (pat) (sent) (rep) (kept) (rc) (los) (wai) (set) (bad) (gon) (bk) (bp) (bv))) s.heap.size = A at hD ⊢
  have hA : ∀ q : Nat, s.heap.size ≤ q → A q := fun q h => by rw [← hAe]; exact Or.inr h
  have hS : va_S A s.heap s.heap [] := va_S.rf
  have hl := lv_entry ([.ref (ad 0), .int (x0), .ref (q)]) (n := 4) (Nat.le_of_ble_eq_true rfl)
  rw [lg_entry_eq]
  generalize (lg_sl ([.ref (ad 0), .int (x0), .ref (q)]) ++ List.replicate (4 - (lg_sl ([.ref (ad 0), .int (x0), .ref (q)])).length) Slot.unset).toArray = ls at hl ⊢
  have hl : lv_has ls 4 [(0, .ref (ad 0)), (1, .int (x0)), (2, .ref (q))] := hl
  refine lv_aload_n hx hb dL_isDropped_0 rfl (lv_at hl 2 rfl) ?_
  refine lv_iconst (v := nI (0)) hx hb dL_isDropped_1 (by decide) ?_
  refine lv_aload_n hx hb dL_isDropped_2 rfl (lv_at hl 0 rfl) ?_
  refine lv_iload_n hx hb dL_isDropped_3 rfl (lv_at hl 1 rfl) ?_
  have hPc := hP.sub (ws' := (wA cI cZ ad (pat) (sent) (rep) (kept) (rc) (los) (wai) (set) (bad) (gon) (bk) (bp) (bv))) [1, 2, 3, 4, 5, 6, 7, 8, 9] rfl
  have hDc := hD.sub (ws' := (wA cI cZ ad (pat) (sent) (rep) (kept) (rc) (los) (wai) (set) (bad) (gon) (bk) (bp) (bv))) [1, 2, 3, 4, 5, 6, 7, 8, 9] (by decide) rfl
  refine q_xcsi (vx_runV (As := [.int (x0)]) (rest := [.int (nI (0)), .ref (q)]) ⟨hx, hb, hml, hown, hts⟩ (c_X3_isDropped l D cI cZ cQ cL hfl b0 (ad) (pat) (sent) (rep) (kept) (rc) (los) (wai) (set) (bad) (gon) (bk) (bp) (bv) (x0) s.heap.size hrc hgon) (cwV 1 hts gL_isDropped_X3_isDropped rfl rfl rfl ⟨rfl, hd_X3_isDropped⟩ ⟨Nat.le_of_ble_eq_true rfl, Nat.le_of_ble_eq_true rfl⟩) (PX_v (q := (RX3, TX3, 13)) (ci := 2) (q0 := 0) hPc hK hDc hN hX (fun _ _ _ => rfl) rfl rfl) rfl rfl hl.1 rfl (lv_room (Nat.le_of_ble_eq_true rfl)) dL_isDropped_4 ⟨Nat.le_of_ble_eq_true rfl, Nat.le_of_ble_eq_true rfl⟩) hP hD hS (fun E ce q9 H locs hE hP hD hS hce hcv hcl => ?_) (fun r h => ?_)
  · obtain ⟨rfl, hc⟩ := hE
    refine vx_catch (own := RL) (name := "java/lang/IndexOutOfBoundsException") hown [] ⟨0, 16, 19, 18⟩ [] (by rw [htab]; rfl) (fun z hz => by cases hz) rfl (by decide) (hts (.classLink RL 18 "java/lang/IndexOutOfBoundsException") (List.mem_of_getElem? (i := 1) rfl)) (hX_cs hX (by decide)) hce hcv hcl ?_
    refine lv_astore_n (lv' := [(3, .ref (q9)), (0, .ref (ad 0)), (1, .int (x0)), (2, .ref (q))]) hx hb dL_isDropped_19 rfl hl (by decide) rfl (fun ls hl => ?_)
    refine lv_iconst (v := nI (1)) hx hb dL_isDropped_20 (by decide) ?_
    exact W.iret (v := nI (1)) hx hb hr (fun t ht hW => ⟨⟨_, (wL cL q f (wA cI cZ ad (pat) (sent) (rep) (kept) (rc) (los) (wai) (set) (bad) (gon) (bk) (bp) (bv))), rfl, Or.inr (⟨rfl, hc, rfl⟩), by rw [ht]; exact hP, hD⟩, hS.F ht⟩) hS.2.2 dL_isDropped_21
  · obtain ⟨hrr, hok⟩ := h
    subst hrr
    have hg6 : gon (tn x0) ≤ 1 := hgon _ (by have := tn_i hok.1; omega)
    rcases (show gon (tn x0) = 0 ∨ gon (tn x0) = 1 by omega) with h0 | h0
    · rw [show nI (gon (tn x0)) = nI (0) from by rw [h0]]
      refine q_if_eq (u := 0) (tgt := 14) hx hb dL_isDropped_7 (by decide) (by decide) (fun _ => ?_) (fun h9 => absurd rfl h9)
      refine lv_lconst (v := (0 : Int64)) hx hb dL_isDropped_14 rfl ?_
      refine va_last (f := f) hx hb hK hP hD hS 0 3 rfl rfl (vp_in_nI (by decide) (by decide)) dL_isDropped_15 (fun H locs hP hD hS => ?_)
      have hP : va_P D vwCl (wL cL q (vp_updL f (nI 0).toNatClampNeg (0 : Int64)) (wA cI cZ ad (pat) (sent) (rep) (kept) (rc) (los) (wai) (set) (bad) (gon) (bk) (bp) (bv))) H := hP
      have hD : va_D A (wL cL q (vp_updL f (nI 0).toNatClampNeg (0 : Int64)) (wA cI cZ ad (pat) (sent) (rep) (kept) (rc) (los) (wai) (set) (bad) (gon) (bk) (bp) (bv))) := hD
      refine lv_goto (tgt := 22) hx hb dL_isDropped_16 (by decide) ?_
      refine lv_iconst (v := nI (0)) hx hb dL_isDropped_22 (by decide) ?_
      exact W.iret (v := nI (0)) hx hb hr (fun t ht hW => ⟨⟨_, _, rfl, Or.inl ⟨rfl, hok, _, rfl, rfl⟩, by rw [ht]; exact hP, hD⟩, hS.F ht⟩) hS.2.2 dL_isDropped_23
    · rw [show nI (gon (tn x0)) = nI (1) from by rw [h0]]
      refine q_if_eq (u := 1) (tgt := 14) hx hb dL_isDropped_7 (by decide) (by decide) (fun h9 => absurd h9 (by decide)) (fun _ => ?_)
      refine lv_lconst (v := (1 : Int64)) hx hb dL_isDropped_10 rfl ?_
      refine lv_goto (tgt := 15) hx hb dL_isDropped_11 (by decide) ?_
      refine va_last (f := f) hx hb hK hP hD hS 0 3 rfl rfl (vp_in_nI (by decide) (by decide)) dL_isDropped_15 (fun H locs hP hD hS => ?_)
      have hP : va_P D vwCl (wL cL q (vp_updL f (nI 0).toNatClampNeg (1 : Int64)) (wA cI cZ ad (pat) (sent) (rep) (kept) (rc) (los) (wai) (set) (bad) (gon) (bk) (bp) (bv))) H := hP
      have hD : va_D A (wL cL q (vp_updL f (nI 0).toNatClampNeg (1 : Int64)) (wA cI cZ ad (pat) (sent) (rep) (kept) (rc) (los) (wai) (set) (bad) (gon) (bk) (bp) (bv))) := hD
      refine lv_goto (tgt := 22) hx hb dL_isDropped_16 (by decide) ?_
      refine lv_iconst (v := nI (0)) hx hb dL_isDropped_22 (by decide) ?_
      exact W.iret (v := nI (0)) hx hb hr (fun t ht hW => ⟨⟨_, _, rfl, Or.inl ⟨rfl, hok, _, rfl, rfl⟩, by rw [ht]; exact hP, hD⟩, hS.F ht⟩) hS.2.2 dL_isDropped_23

set_option maxHeartbeats 4000000 in
set_option maxRecDepth 100000 in
theorem c_L_badRounds (l : Launch) (D : va_G) (cI cZ cQ cL : ClassId) (hfl : l.stackTraces = false) (b0 : Nat) (q : Nat) (f : Nat → Int64) (ad : Nat → Nat) (pat : Nat) (sent : Nat) (rep : Nat) (kept : Nat) (rc : Nat) (los : Nat → Nat) (wai : Nat → Nat) (set : Nat → Nat) (bad : Nat → Nat) (gon : Nat → Nat) (bk : Nat) (bp : Nat → B8) (bv : Nat → B8) (x0 : Int32) (sz : Nat) (hrc : rc ≤ 6) (hgon : ∀ r, r < 6 → gon r ≤ 1) : Met l yL_badRounds wsL_badRounds ({ frames := 8, cells := 1, slots := 6, locals := 138 } : Room) (PX b0 D (TY cI cZ cQ cL) (wL cL q f (wA cI cZ ad (pat) (sent) (rep) (kept) (rc) (los) (wai) (set) (bad) (gon) (bk) (bp) (bv))) sz [.ref (ad 0), .int (x0), .ref (q)]) (QI D (va_A (wL cL q f (wA cI cZ ad (pat) (sent) (rep) (kept) (rc) (los) (wai) (set) (bad) (gon) (bk) (bp) (bv))) sz) (fun z9 (u9 : va_W) => (z9 = nI (0) ∧ (0 ≤ x0.toInt ∧ x0.toInt < rc) ∧ ∃ g : Nat → Int64, g 0 = (nI (bad (tn x0))).toInt64 ∧ u9 = (wL cL q g (wA cI cZ ad (pat) (sent) (rep) (kept) (rc) (los) (wai) (set) (bad) (gon) (bk) (bp) (bv)))) ∨ (z9 = nI (1) ∧ (¬ (0 ≤ x0.toInt ∧ x0.toInt < rc)) ∧ u9 = (wL cL q f (wA cI cZ ad (pat) (sent) (rep) (kept) (rc) (los) (wai) (set) (bad) (gon) (bk) (bp) (bv))))) (fun u9 => u9)) 1 6 (va_A (wL cL q f (wA cI cZ ad (pat) (sent) (rep) (kept) (rc) (los) (wai) (set) (bad) (gon) (bk) (bp) (bv))) sz) := by
  refine q_ofWH (hh := [(0, 9, 12, 18)]) (cc := cL_badRounds) (maxL := 4) (ret := (some .int)) (by decide) rfl ?_
  intro p e s m args below meth c s₁ B hml htab hv
  obtain ⟨rfl, hsz, hP, hK, hD0, hN, hX⟩ := hv
  have hx := B.exec
  have hb := B.bytes
  have hr := B.returns
  have hts := atoms_spec (ws := wsL_badRounds) B.pre
  have hown : s.vm.findClass RL = some m.cls := findClass_of_methodNamed B.named
  have hlocks := B.notSynchronized
  subst hsz
  have hD := hD0.self (sz := s.heap.size)
  generalize hAe : va_A (wL cL q f (wA cI cZ ad (pat) (sent) (rep) (kept) (rc) (los) (wai) (set) (bad) (gon) (bk) (bp) (bv))) s.heap.size = A at hD ⊢
  have hA : ∀ q : Nat, s.heap.size ≤ q → A q := fun q h => by rw [← hAe]; exact Or.inr h
  have hS : va_S A s.heap s.heap [] := va_S.rf
  have hl := lv_entry ([.ref (ad 0), .int (x0), .ref (q)]) (n := 4) (Nat.le_of_ble_eq_true rfl)
  rw [lg_entry_eq]
  generalize (lg_sl ([.ref (ad 0), .int (x0), .ref (q)]) ++ List.replicate (4 - (lg_sl ([.ref (ad 0), .int (x0), .ref (q)])).length) Slot.unset).toArray = ls at hl ⊢
  have hl : lv_has ls 4 [(0, .ref (ad 0)), (1, .int (x0)), (2, .ref (q))] := hl
  refine lv_aload_n hx hb dL_badRounds_0 rfl (lv_at hl 2 rfl) ?_
  refine lv_iconst (v := nI (0)) hx hb dL_badRounds_1 (by decide) ?_
  refine lv_aload_n hx hb dL_badRounds_2 rfl (lv_at hl 0 rfl) ?_
  refine lv_iload_n hx hb dL_badRounds_3 rfl (lv_at hl 1 rfl) ?_
  have hPc := hP.sub (ws' := (wA cI cZ ad (pat) (sent) (rep) (kept) (rc) (los) (wai) (set) (bad) (gon) (bk) (bp) (bv))) [1, 2, 3, 4, 5, 6, 7, 8, 9] rfl
  have hDc := hD.sub (ws' := (wA cI cZ ad (pat) (sent) (rep) (kept) (rc) (los) (wai) (set) (bad) (gon) (bk) (bp) (bv))) [1, 2, 3, 4, 5, 6, 7, 8, 9] (by decide) rfl
  refine q_xcsi (vx_runV (As := [.int (x0)]) (rest := [.int (nI (0)), .ref (q)]) ⟨hx, hb, hml, hown, hts⟩ (c_X3_badRounds l D cI cZ cQ cL hfl b0 (ad) (pat) (sent) (rep) (kept) (rc) (los) (wai) (set) (bad) (gon) (bk) (bp) (bv) (x0) s.heap.size hrc hgon) (cwV 1 hts gL_badRounds_X3_badRounds rfl rfl rfl ⟨rfl, hd_X3_badRounds⟩ ⟨Nat.le_of_ble_eq_true rfl, Nat.le_of_ble_eq_true rfl⟩) (PX_v (q := (RX3, TX3, 13)) (ci := 2) (q0 := 0) hPc hK hDc hN hX (fun _ _ _ => rfl) rfl rfl) rfl rfl hl.1 rfl (lv_room (Nat.le_of_ble_eq_true rfl)) dL_badRounds_4 ⟨Nat.le_of_ble_eq_true rfl, Nat.le_of_ble_eq_true rfl⟩) hP hD hS (fun E ce q9 H locs hE hP hD hS hce hcv hcl => ?_) (fun r h => ?_)
  · obtain ⟨rfl, hc⟩ := hE
    refine vx_catch (own := RL) (name := "java/lang/IndexOutOfBoundsException") hown [] ⟨0, 9, 12, 18⟩ [] (by rw [htab]; rfl) (fun z hz => by cases hz) rfl (by decide) (hts (.classLink RL 18 "java/lang/IndexOutOfBoundsException") (List.mem_of_getElem? (i := 1) rfl)) (hX_cs hX (by decide)) hce hcv hcl ?_
    refine lv_astore_n (lv' := [(3, .ref (q9)), (0, .ref (ad 0)), (1, .int (x0)), (2, .ref (q))]) hx hb dL_badRounds_12 rfl hl (by decide) rfl (fun ls hl => ?_)
    refine lv_iconst (v := nI (1)) hx hb dL_badRounds_13 (by decide) ?_
    exact W.iret (v := nI (1)) hx hb hr (fun t ht hW => ⟨⟨_, (wL cL q f (wA cI cZ ad (pat) (sent) (rep) (kept) (rc) (los) (wai) (set) (bad) (gon) (bk) (bp) (bv))), rfl, Or.inr (⟨rfl, hc, rfl⟩), by rw [ht]; exact hP, hD⟩, hS.F ht⟩) hS.2.2 dL_badRounds_14
  · obtain ⟨hrr, hok⟩ := h
    subst hrr
    refine lv_i2l (v := (nI (bad (tn x0))).toInt64) hx hb dL_badRounds_7 rfl ?_
    refine va_last (f := f) hx hb hK hP hD hS 0 3 rfl rfl (vp_in_nI (by decide) (by decide)) dL_badRounds_8 (fun H locs hP hD hS => ?_)
    have hP : va_P D vwCl (wL cL q (vp_updL f (nI 0).toNatClampNeg (nI (bad (tn x0))).toInt64) (wA cI cZ ad (pat) (sent) (rep) (kept) (rc) (los) (wai) (set) (bad) (gon) (bk) (bp) (bv))) H := hP
    have hD : va_D A (wL cL q (vp_updL f (nI 0).toNatClampNeg (nI (bad (tn x0))).toInt64) (wA cI cZ ad (pat) (sent) (rep) (kept) (rc) (los) (wai) (set) (bad) (gon) (bk) (bp) (bv))) := hD
    refine lv_goto (tgt := 15) hx hb dL_badRounds_9 (by decide) ?_
    refine lv_iconst (v := nI (0)) hx hb dL_badRounds_15 (by decide) ?_
    exact W.iret (v := nI (0)) hx hb hr (fun t ht hW => ⟨⟨_, _, rfl, Or.inl ⟨rfl, hok, _, updL_n _ _, rfl⟩, by rw [ht]; exact hP, hD⟩, hS.F ht⟩) hS.2.2 dL_badRounds_16

set_option maxHeartbeats 4000000 in
set_option maxRecDepth 100000 in
theorem c_L_times (l : Launch) (D : va_G) (cI cZ cQ cL : ClassId) (hfl : l.stackTraces = false) (b0 : Nat) (q : Nat) (f : Nat → Int64) (ad : Nat → Nat) (pat : Nat) (sent : Nat) (rep : Nat) (kept : Nat) (rc : Nat) (los : Nat → Nat) (wai : Nat → Nat) (set : Nat → Nat) (bad : Nat → Nat) (gon : Nat → Nat) (bk : Nat) (bp : Nat → B8) (bv : Nat → B8) (x0 : Int32) (x1 : Int32) (sz : Nat) : Met l yL_times wsL_times ({ frames := 7, cells := 1, slots := 6, locals := 118 } : Room) (PX b0 D (TY cI cZ cQ cL) (wL cL q f (wA cI cZ ad (pat) (sent) (rep) (kept) (rc) (los) (wai) (set) (bad) (gon) (bk) (bp) (bv))) sz [.ref (ad 0), .int (x0), .int (x1), .ref (q)]) (QI D (va_A (wL cL q f (wA cI cZ ad (pat) (sent) (rep) (kept) (rc) (los) (wai) (set) (bad) (gon) (bk) (bp) (bv))) sz) (fun z9 (u9 : va_W) => (z9 = nI (0) ∧ ((0 ≤ x0.toInt ∧ x0.toInt ≤ 255) ∧ (0 ≤ x1.toInt ∧ x1.toInt ≤ 255)) ∧ ∃ g : Nat → Int64, g 0 = (bI (fm (BitVec.ofNat 8 (tn x0)) (BitVec.ofNat 8 (tn x1)))).toInt64 ∧ u9 = (wL cL q g (wA cI cZ ad (pat) (sent) (rep) (kept) (rc) (los) (wai) (set) (bad) (gon) (bk) (bp) (bv)))) ∨ (z9 = nI (1) ∧ (¬ ((0 ≤ x0.toInt ∧ x0.toInt ≤ 255) ∧ (0 ≤ x1.toInt ∧ x1.toInt ≤ 255))) ∧ u9 = (wL cL q f (wA cI cZ ad (pat) (sent) (rep) (kept) (rc) (los) (wai) (set) (bad) (gon) (bk) (bp) (bv))))) (fun u9 => u9)) 1 6 (va_A (wL cL q f (wA cI cZ ad (pat) (sent) (rep) (kept) (rc) (los) (wai) (set) (bad) (gon) (bk) (bp) (bv))) sz) := by
  refine q_ofWH (hh := [(0, 10, 13, 13)]) (cc := cL_times) (maxL := 5) (ret := (some .int)) (by decide) rfl ?_
  intro p e s m args below meth c s₁ B hml htab hv
  obtain ⟨rfl, hsz, hP, hK, hD0, hN, hX⟩ := hv
  have hx := B.exec
  have hb := B.bytes
  have hr := B.returns
  have hts := atoms_spec (ws := wsL_times) B.pre
  have hown : s.vm.findClass RL = some m.cls := findClass_of_methodNamed B.named
  have hlocks := B.notSynchronized
  subst hsz
  have hD := hD0.self (sz := s.heap.size)
  generalize hAe : va_A (wL cL q f (wA cI cZ ad (pat) (sent) (rep) (kept) (rc) (los) (wai) (set) (bad) (gon) (bk) (bp) (bv))) s.heap.size = A at hD ⊢
  have hA : ∀ q : Nat, s.heap.size ≤ q → A q := fun q h => by rw [← hAe]; exact Or.inr h
  have hS : va_S A s.heap s.heap [] := va_S.rf
  have hl := lv_entry ([.ref (ad 0), .int (x0), .int (x1), .ref (q)]) (n := 5) (Nat.le_of_ble_eq_true rfl)
  rw [lg_entry_eq]
  generalize (lg_sl ([.ref (ad 0), .int (x0), .int (x1), .ref (q)]) ++ List.replicate (5 - (lg_sl ([.ref (ad 0), .int (x0), .int (x1), .ref (q)])).length) Slot.unset).toArray = ls at hl ⊢
  have hl : lv_has ls 5 [(0, .ref (ad 0)), (1, .int (x0)), (2, .int (x1)), (3, .ref (q))] := hl
  refine lv_aload_n hx hb dL_times_0 rfl (lv_at hl 3 rfl) ?_
  refine lv_iconst (v := nI (0)) hx hb dL_times_1 (by decide) ?_
  refine lv_aload_n hx hb dL_times_2 rfl (lv_at hl 0 rfl) ?_
  refine lv_iload_n hx hb dL_times_3 rfl (lv_at hl 1 rfl) ?_
  refine lv_iload_n hx hb dL_times_4 rfl (lv_at hl 2 rfl) ?_
  have hPc := hP.sub (ws' := (wA cI cZ ad (pat) (sent) (rep) (kept) (rc) (los) (wai) (set) (bad) (gon) (bk) (bp) (bv))) [1, 2, 3, 4, 5, 6, 7, 8, 9] rfl
  have hDc := hD.sub (ws' := (wA cI cZ ad (pat) (sent) (rep) (kept) (rc) (los) (wai) (set) (bad) (gon) (bk) (bp) (bv))) [1, 2, 3, 4, 5, 6, 7, 8, 9] (by decide) rfl
  refine q_xcsi (vx_runV (As := [.int (x0), .int (x1)]) (rest := [.int (nI (0)), .ref (q)]) ⟨hx, hb, hml, hown, hts⟩ (c_X3_times l D cI cZ cQ cL hfl b0 (ad) (pat) (sent) (rep) (kept) (rc) (los) (wai) (set) (bad) (gon) (bk) (bp) (bv) (x0) (x1) s.heap.size ) (cwV 2 hts gL_times_X3_times rfl rfl rfl ⟨rfl, hd_X3_times⟩ ⟨Nat.le_of_ble_eq_true rfl, Nat.le_of_ble_eq_true rfl⟩) (PX_v (q := (RX3, TX3, 13)) (ci := 2) (q0 := 0) hPc hK hDc hN hX (fun _ _ _ => rfl) rfl rfl) rfl rfl hl.1 rfl (lv_room (Nat.le_of_ble_eq_true rfl)) dL_times_5 ⟨Nat.le_of_ble_eq_true rfl, Nat.le_of_ble_eq_true rfl⟩) hP hD hS (fun E ce q9 H locs hE hP hD hS hce hcv hcl => ?_) (fun r h => ?_)
  · obtain ⟨rfl, hc⟩ := hE
    refine vx_catch (own := RL) (name := "java/lang/IllegalArgumentException") hown [] ⟨0, 10, 13, 13⟩ [] (by rw [htab]; rfl) (fun z hz => by cases hz) rfl (by decide) (hts (.classLink RL 13 "java/lang/IllegalArgumentException") (List.mem_of_getElem? (i := 1) rfl)) (hX_cs hX (by decide)) hce hcv hcl ?_
    refine lv_astore (lv' := [(4, .ref (q9)), (0, .ref (ad 0)), (1, .int (x0)), (2, .int (x1)), (3, .ref (q))]) hx hb dL_times_13 hl (by decide) rfl (fun ls hl => ?_)
    refine lv_iconst (v := nI (1)) hx hb dL_times_15 (by decide) ?_
    exact W.iret (v := nI (1)) hx hb hr (fun t ht hW => ⟨⟨_, (wL cL q f (wA cI cZ ad (pat) (sent) (rep) (kept) (rc) (los) (wai) (set) (bad) (gon) (bk) (bp) (bv))), rfl, Or.inr (⟨rfl, hc, rfl⟩), by rw [ht]; exact hP, hD⟩, hS.F ht⟩) hS.2.2 dL_times_16
  · obtain ⟨hrr, hok⟩ := h
    subst hrr
    refine lv_i2l (v := (bI (fm (BitVec.ofNat 8 (tn x0)) (BitVec.ofNat 8 (tn x1)))).toInt64) hx hb dL_times_8 rfl ?_
    refine va_last (f := f) hx hb hK hP hD hS 0 3 rfl rfl (vp_in_nI (by decide) (by decide)) dL_times_9 (fun H locs hP hD hS => ?_)
    have hP : va_P D vwCl (wL cL q (vp_updL f (nI 0).toNatClampNeg (bI (fm (BitVec.ofNat 8 (tn x0)) (BitVec.ofNat 8 (tn x1)))).toInt64) (wA cI cZ ad (pat) (sent) (rep) (kept) (rc) (los) (wai) (set) (bad) (gon) (bk) (bp) (bv))) H := hP
    have hD : va_D A (wL cL q (vp_updL f (nI 0).toNatClampNeg (bI (fm (BitVec.ofNat 8 (tn x0)) (BitVec.ofNat 8 (tn x1)))).toInt64) (wA cI cZ ad (pat) (sent) (rep) (kept) (rc) (los) (wai) (set) (bad) (gon) (bk) (bp) (bv))) := hD
    refine lv_goto (tgt := 17) hx hb dL_times_10 (by decide) ?_
    refine lv_iconst (v := nI (0)) hx hb dL_times_17 (by decide) ?_
    exact W.iret (v := nI (0)) hx hb hr (fun t ht hW => ⟨⟨_, _, rfl, Or.inl ⟨rfl, hok, _, updL_n _ _, rfl⟩, by rw [ht]; exact hP, hD⟩, hS.F ht⟩) hS.2.2 dL_times_18

set_option maxHeartbeats 4000000 in
set_option maxRecDepth 100000 in
theorem c_L_packet (l : Launch) (D : va_G) (cI cZ cQ cL : ClassId) (hfl : l.stackTraces = false) (b0 : Nat) (q : Nat) (f : Nat → Int64) (ad : Nat → Nat) (pat : Nat) (sent : Nat) (rep : Nat) (kept : Nat) (rc : Nat) (los : Nat → Nat) (wai : Nat → Nat) (set : Nat → Nat) (bad : Nat → Nat) (gon : Nat → Nat) (bk : Nat) (bp : Nat → B8) (bv : Nat → B8) (x0 : Int32) (sz : Nat) (hbk : bk ≤ 8) : Met l yL_packet wsL_packet ({ frames := 7, cells := 1, slots := 6, locals := 117 } : Room) (PX b0 D (TY cI cZ cQ cL) (wL cL q f (wA cI cZ ad (pat) (sent) (rep) (kept) (rc) (los) (wai) (set) (bad) (gon) (bk) (bp) (bv))) sz [.ref (ad 0), .int (x0), .ref (q)]) (QI D (va_A (wL cL q f (wA cI cZ ad (pat) (sent) (rep) (kept) (rc) (los) (wai) (set) (bad) (gon) (bk) (bp) (bv))) sz) (fun z9 (u9 : va_W) => (z9 = nI (0) ∧ (0 ≤ x0.toInt ∧ x0.toInt ≤ 15) ∧ ∃ g : Nat → Int64, g 0 = (bI (lag bk bp bv (BitVec.ofNat 8 (tn x0)))).toInt64 ∧ u9 = (wL cL q g (wA cI cZ ad (pat) (sent) (rep) (kept) (rc) (los) (wai) (set) (bad) (gon) (bk) (bp) (bv)))) ∨ (z9 = nI (1) ∧ (¬ (0 ≤ x0.toInt ∧ x0.toInt ≤ 15)) ∧ u9 = (wL cL q f (wA cI cZ ad (pat) (sent) (rep) (kept) (rc) (los) (wai) (set) (bad) (gon) (bk) (bp) (bv))))) (fun u9 => u9)) 1 6 (va_A (wL cL q f (wA cI cZ ad (pat) (sent) (rep) (kept) (rc) (los) (wai) (set) (bad) (gon) (bk) (bp) (bv))) sz) := by
  refine q_ofWH (hh := [(0, 9, 12, 18)]) (cc := cL_packet) (maxL := 4) (ret := (some .int)) (by decide) rfl ?_
  intro p e s m args below meth c s₁ B hml htab hv
  obtain ⟨rfl, hsz, hP, hK, hD0, hN, hX⟩ := hv
  have hx := B.exec
  have hb := B.bytes
  have hr := B.returns
  have hts := atoms_spec (ws := wsL_packet) B.pre
  have hown : s.vm.findClass RL = some m.cls := findClass_of_methodNamed B.named
  have hlocks := B.notSynchronized
  subst hsz
  have hD := hD0.self (sz := s.heap.size)
  generalize hAe : va_A (wL cL q f (wA cI cZ ad (pat) (sent) (rep) (kept) (rc) (los) (wai) (set) (bad) (gon) (bk) (bp) (bv))) s.heap.size = A at hD ⊢
  have hA : ∀ q : Nat, s.heap.size ≤ q → A q := fun q h => by rw [← hAe]; exact Or.inr h
  have hS : va_S A s.heap s.heap [] := va_S.rf
  have hl := lv_entry ([.ref (ad 0), .int (x0), .ref (q)]) (n := 4) (Nat.le_of_ble_eq_true rfl)
  rw [lg_entry_eq]
  generalize (lg_sl ([.ref (ad 0), .int (x0), .ref (q)]) ++ List.replicate (4 - (lg_sl ([.ref (ad 0), .int (x0), .ref (q)])).length) Slot.unset).toArray = ls at hl ⊢
  have hl : lv_has ls 4 [(0, .ref (ad 0)), (1, .int (x0)), (2, .ref (q))] := hl
  refine lv_aload_n hx hb dL_packet_0 rfl (lv_at hl 2 rfl) ?_
  refine lv_iconst (v := nI (0)) hx hb dL_packet_1 (by decide) ?_
  refine lv_aload_n hx hb dL_packet_2 rfl (lv_at hl 0 rfl) ?_
  refine lv_iload_n hx hb dL_packet_3 rfl (lv_at hl 1 rfl) ?_
  have hPc := hP.sub (ws' := (wA cI cZ ad (pat) (sent) (rep) (kept) (rc) (los) (wai) (set) (bad) (gon) (bk) (bp) (bv))) [1, 2, 3, 4, 5, 6, 7, 8, 9] rfl
  have hDc := hD.sub (ws' := (wA cI cZ ad (pat) (sent) (rep) (kept) (rc) (los) (wai) (set) (bad) (gon) (bk) (bp) (bv))) [1, 2, 3, 4, 5, 6, 7, 8, 9] (by decide) rfl
  refine q_xcsi (vx_runV (As := [.int (x0)]) (rest := [.int (nI (0)), .ref (q)]) ⟨hx, hb, hml, hown, hts⟩ (c_X3_packet l D cI cZ cQ cL hfl b0 (ad) (pat) (sent) (rep) (kept) (rc) (los) (wai) (set) (bad) (gon) (bk) (bp) (bv) (x0) s.heap.size hbk) (cwV 1 hts gL_packet_X3_packet rfl rfl rfl ⟨rfl, hd_X3_packet⟩ ⟨Nat.le_of_ble_eq_true rfl, Nat.le_of_ble_eq_true rfl⟩) (PX_v (q := (RX3, TX3, 13)) (ci := 2) (q0 := 0) hPc hK hDc hN hX (fun _ _ _ => rfl) rfl rfl) rfl rfl hl.1 rfl (lv_room (Nat.le_of_ble_eq_true rfl)) dL_packet_4 ⟨Nat.le_of_ble_eq_true rfl, Nat.le_of_ble_eq_true rfl⟩) hP hD hS (fun E ce q9 H locs hE hP hD hS hce hcv hcl => ?_) (fun r h => ?_)
  · obtain ⟨rfl, hc⟩ := hE
    refine vx_catch (own := RL) (name := "java/lang/IndexOutOfBoundsException") hown [] ⟨0, 9, 12, 18⟩ [] (by rw [htab]; rfl) (fun z hz => by cases hz) rfl (by decide) (hts (.classLink RL 18 "java/lang/IndexOutOfBoundsException") (List.mem_of_getElem? (i := 1) rfl)) (hX_cs hX (by decide)) hce hcv hcl ?_
    refine lv_astore_n (lv' := [(3, .ref (q9)), (0, .ref (ad 0)), (1, .int (x0)), (2, .ref (q))]) hx hb dL_packet_12 rfl hl (by decide) rfl (fun ls hl => ?_)
    refine lv_iconst (v := nI (1)) hx hb dL_packet_13 (by decide) ?_
    exact W.iret (v := nI (1)) hx hb hr (fun t ht hW => ⟨⟨_, (wL cL q f (wA cI cZ ad (pat) (sent) (rep) (kept) (rc) (los) (wai) (set) (bad) (gon) (bk) (bp) (bv))), rfl, Or.inr (⟨rfl, hc, rfl⟩), by rw [ht]; exact hP, hD⟩, hS.F ht⟩) hS.2.2 dL_packet_14
  · obtain ⟨hrr, hok⟩ := h
    subst hrr
    refine lv_i2l (v := (bI (lag bk bp bv (BitVec.ofNat 8 (tn x0)))).toInt64) hx hb dL_packet_7 rfl ?_
    refine va_last (f := f) hx hb hK hP hD hS 0 3 rfl rfl (vp_in_nI (by decide) (by decide)) dL_packet_8 (fun H locs hP hD hS => ?_)
    have hP : va_P D vwCl (wL cL q (vp_updL f (nI 0).toNatClampNeg (bI (lag bk bp bv (BitVec.ofNat 8 (tn x0)))).toInt64) (wA cI cZ ad (pat) (sent) (rep) (kept) (rc) (los) (wai) (set) (bad) (gon) (bk) (bp) (bv))) H := hP
    have hD : va_D A (wL cL q (vp_updL f (nI 0).toNatClampNeg (bI (lag bk bp bv (BitVec.ofNat 8 (tn x0)))).toInt64) (wA cI cZ ad (pat) (sent) (rep) (kept) (rc) (los) (wai) (set) (bad) (gon) (bk) (bp) (bv))) := hD
    refine lv_goto (tgt := 15) hx hb dL_packet_9 (by decide) ?_
    refine lv_iconst (v := nI (0)) hx hb dL_packet_15 (by decide) ?_
    exact W.iret (v := nI (0)) hx hb hr (fun t ht hW => ⟨⟨_, _, rfl, Or.inl ⟨rfl, hok, _, updL_n _ _, rfl⟩, by rw [ht]; exact hP, hD⟩, hS.F ht⟩) hS.2.2 dL_packet_16

set_option maxHeartbeats 4000000 in
set_option maxRecDepth 100000 in
theorem c_L_rebuilt (l : Launch) (D : va_G) (cI cZ cQ cL : ClassId) (hfl : l.stackTraces = false) (b0 : Nat) (q : Nat) (f : Nat → Int64) (ad : Nat → Nat) (pat : Nat) (sent : Nat) (rep : Nat) (kept : Nat) (rc : Nat) (los : Nat → Nat) (wai : Nat → Nat) (set : Nat → Nat) (bad : Nat → Nat) (gon : Nat → Nat) (bk : Nat) (bp : Nat → B8) (bv : Nat → B8) (ck : Nat) (cp : Nat → B8) (cv : Nat → B8) (ek : Nat) (em : Nat → Nat → B8) (x0 : Int32) (x1 : Int32) (sz : Nat) (hrc : rc ≤ 6) (hset : ∀ r, r < 6 → set r < 65536) (hbk : bk ≤ 8) (hbp : ∀ i, i < bk → bp i = BitVec.ofNat 8 i) : Met l yL_rebuilt wsL_rebuilt ({ frames := 9, cells := 3, slots := 18, locals := 162 } : Room) (PX b0 D (TY cI cZ cQ cL) (wL cL q f (wF cI cZ cQ ad (pat) (sent) (rep) (kept) (rc) (los) (wai) (set) (bad) (gon) (bk) (bp) (bv) (ck) (cp) (cv) (ek) (em))) sz [.ref (ad 0), .int (x0), .int (x1), .ref (q)]) (QI D (va_A (wL cL q f (wF cI cZ cQ ad (pat) (sent) (rep) (kept) (rc) (los) (wai) (set) (bad) (gon) (bk) (bp) (bv) (ck) (cp) (cv) (ek) (em))) sz) (fun z9 (u9 : va_W) => (z9 = nI (0) ∧ ((0 ≤ x0.toInt ∧ x0.toInt < rc) ∧ (0 ≤ x1.toInt ∧ x1.toInt < bk) ∧ bk ≤ pc (set (tn x0))) ∧ ∃ g : Nat → Int64, g 0 = (bI (bv (tn x1))).toInt64 ∧ u9 = (wL cL q g (wF cI cZ cQ ad (pat) (sent) (rep) (kept) (rc) (los) (wai) (set) (bad) (gon) (bk) (bp) (bv) (chC bk (set (tn x0)) (fun q => q) 16) (chP bk (set (tn x0)) (fun q => q) cp 16) (chV bk (set (tn x0)) (fun q => q) (lag bk bp bv) cv 16) (ek) (em)))) ∨ (z9 = nI (1) ∧ (¬ ((0 ≤ x0.toInt ∧ x0.toInt < rc) ∧ (0 ≤ x1.toInt ∧ x1.toInt < bk))) ∧ u9 = (wL cL q f (wF cI cZ cQ ad (pat) (sent) (rep) (kept) (rc) (los) (wai) (set) (bad) (gon) (bk) (bp) (bv) (ck) (cp) (cv) (ek) (em)))) ∨ (z9 = nI (2) ∧ (((0 ≤ x0.toInt ∧ x0.toInt < rc) ∧ (0 ≤ x1.toInt ∧ x1.toInt < bk)) ∧ ¬ (bk ≤ pc (set (tn x0)))) ∧ u9 = (wL cL q f (wF cI cZ cQ ad (pat) (sent) (rep) (kept) (rc) (los) (wai) (set) (bad) (gon) (bk) (bp) (bv) (ck) (cp) (cv) (ek) (em))))) (fun u9 => u9)) 3 18 (va_A (wL cL q f (wF cI cZ cQ ad (pat) (sent) (rep) (kept) (rc) (los) (wai) (set) (bad) (gon) (bk) (bp) (bv) (ck) (cp) (cv) (ek) (em))) sz) := by
  refine q_ofWH (hh := [(0, 10, 13, 18), (0, 10, 17, 20)]) (cc := cL_rebuilt) (maxL := 5) (ret := (some .int)) (by decide) rfl ?_
  intro p e s m args below meth c s₁ B hml htab hv
  obtain ⟨rfl, hsz, hP, hK, hD0, hN, hX⟩ := hv
  have hx := B.exec
  have hb := B.bytes
  have hr := B.returns
  have hts := atoms_spec (ws := wsL_rebuilt) B.pre
  have hown : s.vm.findClass RL = some m.cls := findClass_of_methodNamed B.named
  have hlocks := B.notSynchronized
  subst hsz
  have hD := hD0.self (sz := s.heap.size)
  generalize hAe : va_A (wL cL q f (wF cI cZ cQ ad (pat) (sent) (rep) (kept) (rc) (los) (wai) (set) (bad) (gon) (bk) (bp) (bv) (ck) (cp) (cv) (ek) (em))) s.heap.size = A at hD ⊢
  have hA : ∀ q : Nat, s.heap.size ≤ q → A q := fun q h => by rw [← hAe]; exact Or.inr h
  have hS : va_S A s.heap s.heap [] := va_S.rf
  have hl := lv_entry ([.ref (ad 0), .int (x0), .int (x1), .ref (q)]) (n := 5) (Nat.le_of_ble_eq_true rfl)
  rw [lg_entry_eq]
  generalize (lg_sl ([.ref (ad 0), .int (x0), .int (x1), .ref (q)]) ++ List.replicate (5 - (lg_sl ([.ref (ad 0), .int (x0), .int (x1), .ref (q)])).length) Slot.unset).toArray = ls at hl ⊢
  have hl : lv_has ls 5 [(0, .ref (ad 0)), (1, .int (x0)), (2, .int (x1)), (3, .ref (q))] := hl
  refine lv_aload_n hx hb dL_rebuilt_0 rfl (lv_at hl 3 rfl) ?_
  refine lv_iconst (v := nI (0)) hx hb dL_rebuilt_1 (by decide) ?_
  refine lv_aload_n hx hb dL_rebuilt_2 rfl (lv_at hl 0 rfl) ?_
  refine lv_iload_n hx hb dL_rebuilt_3 rfl (lv_at hl 1 rfl) ?_
  refine lv_iload_n hx hb dL_rebuilt_4 rfl (lv_at hl 2 rfl) ?_
  have hPc := hP.sub (ws' := (wF cI cZ cQ ad (pat) (sent) (rep) (kept) (rc) (los) (wai) (set) (bad) (gon) (bk) (bp) (bv) (ck) (cp) (cv) (ek) (em))) [1, 2, 3, 4, 5, 6, 7, 8, 9, 10, 11, 12, 13, 14, 15, 16, 17, 18, 19, 20, 21, 22] rfl
  have hDc := hD.sub (ws' := (wF cI cZ cQ ad (pat) (sent) (rep) (kept) (rc) (los) (wai) (set) (bad) (gon) (bk) (bp) (bv) (ck) (cp) (cv) (ek) (em))) [1, 2, 3, 4, 5, 6, 7, 8, 9, 10, 11, 12, 13, 14, 15, 16, 17, 18, 19, 20, 21, 22] (by decide) rfl
  refine q_xci (wc := (wF cI cZ cQ ad (pat) (sent) (rep) (kept) (rc) (los) (wai) (set) (bad) (gon) (bk) (bp) (bv) (ck) (cp) (cv) (ek) (em))) (wr := [(q, .inl (cL, 1, .inr (.inl f)))]) (w1 := fun _ => (wF cI cZ cQ ad (pat) (sent) (rep) (kept) (rc) (los) (wai) (set) (bad) (gon) (bk) (bp) (bv) (chC bk (set (tn x0)) (fun q => q) 16) (chP bk (set (tn x0)) (fun q => q) cp 16) (chV bk (set (tn x0)) (fun q => q) (lag bk bp bv) cv 16) (ek) (em))) (vx_runV (As := [.int (x0), .int (x1)]) (rest := [.int (nI (0)), .ref (q)]) ⟨hx, hb, hml, hown, hts⟩ (c_X3_rebuilt l D cI cZ cQ cL hfl b0 (ad) (pat) (sent) (rep) (kept) (rc) (los) (wai) (set) (bad) (gon) (bk) (bp) (bv) (ck) (cp) (cv) (ek) (em) (x0) (x1) s.heap.size hrc hset hbk hbp) (cwV 2 hts gL_rebuilt_X3_rebuilt rfl rfl rfl ⟨rfl, hd_X3_rebuilt⟩ ⟨Nat.le_of_ble_eq_true rfl, Nat.le_of_ble_eq_true rfl⟩) (PX_v (q := (RX3, TX3, 13)) (ci := 2) (q0 := 0) hPc hK hDc hN hX (fun _ _ _ => rfl) rfl rfl) rfl rfl hl.1 rfl (lv_room (Nat.le_of_ble_eq_true rfl)) dL_rebuilt_5 ⟨Nat.le_of_ble_eq_true rfl, Nat.le_of_ble_eq_true rfl⟩) hP hD hS hA [1, 2, 3, 4, 5, 6, 7, 8, 9, 10, 11, 12, 13, 14, 15, 16, 17, 18, 19, 20, 21, 22] [0] rfl rfl (by decide) (by decide) (fun E ce q9 H locs hE hP hD hS hce hcv hcl => ?_) (fun r H locs h hP hD hS => ?_)
  · rcases hE with ⟨rfl, hc⟩ | ⟨rfl, hc⟩
    · refine vx_catch (own := RL) (name := "java/lang/IndexOutOfBoundsException") hown [] ⟨0, 10, 13, 18⟩ [⟨0, 10, 17, 20⟩] (by rw [htab]; rfl) (fun z hz => by cases hz) rfl (by decide) (hts (.classLink RL 18 "java/lang/IndexOutOfBoundsException") (List.mem_of_getElem? (i := 1) rfl)) (hX_cs hX (by decide)) hce hcv hcl ?_
      refine lv_astore (lv' := [(4, .ref (q9)), (0, .ref (ad 0)), (1, .int (x0)), (2, .int (x1)), (3, .ref (q))]) hx hb dL_rebuilt_13 hl (by decide) rfl (fun ls hl => ?_)
      refine lv_iconst (v := nI (1)) hx hb dL_rebuilt_15 (by decide) ?_
      exact W.iret (v := nI (1)) hx hb hr (fun t ht hW => ⟨⟨_, (wL cL q f (wF cI cZ cQ ad (pat) (sent) (rep) (kept) (rc) (los) (wai) (set) (bad) (gon) (bk) (bp) (bv) (ck) (cp) (cv) (ek) (em))), rfl, Or.inr (Or.inl ⟨rfl, hc, rfl⟩), by rw [ht]; exact hP, hD⟩, hS.F ht⟩) hS.2.2 dL_rebuilt_16
    · refine vx_catch (own := RL) (name := "java/lang/IllegalStateException") hown [⟨0, 10, 13, 18⟩] ⟨0, 10, 17, 20⟩ [] (by rw [htab]; rfl) (fun z hz => by obtain rfl := List.mem_singleton.mp hz; exact Or.inr ⟨by decide, "java/lang/IndexOutOfBoundsException", (hts (.classLink RL 18 "java/lang/IndexOutOfBoundsException") (List.mem_of_getElem? (i := 1) rfl)), hX_nc hX (by decide)⟩) rfl (by decide) (hts (.classLink RL 20 "java/lang/IllegalStateException") (List.mem_of_getElem? (i := 2) rfl)) (hX_cs hX (by decide)) hce hcv hcl ?_
      refine lv_astore (lv' := [(4, .ref (q9)), (0, .ref (ad 0)), (1, .int (x0)), (2, .int (x1)), (3, .ref (q))]) hx hb dL_rebuilt_17 hl (by decide) rfl (fun ls hl => ?_)
      refine lv_iconst (v := nI (2)) hx hb dL_rebuilt_19 (by decide) ?_
      exact W.iret (v := nI (2)) hx hb hr (fun t ht hW => ⟨⟨_, (wL cL q f (wF cI cZ cQ ad (pat) (sent) (rep) (kept) (rc) (los) (wai) (set) (bad) (gon) (bk) (bp) (bv) (ck) (cp) (cv) (ek) (em))), rfl, Or.inr (Or.inr (⟨rfl, hc, rfl⟩)), by rw [ht]; exact hP, hD⟩, hS.F ht⟩) hS.2.2 dL_rebuilt_20
  · obtain ⟨hrr, hok⟩ := h
    subst hrr
    have hP : va_P D vwCl (wL cL q f (wF cI cZ cQ ad (pat) (sent) (rep) (kept) (rc) (los) (wai) (set) (bad) (gon) (bk) (bp) (bv) (chC bk (set (tn x0)) (fun q => q) 16) (chP bk (set (tn x0)) (fun q => q) cp 16) (chV bk (set (tn x0)) (fun q => q) (lag bk bp bv) cv 16) (ek) (em))) H := hP
    have hD : va_D A (wL cL q f (wF cI cZ cQ ad (pat) (sent) (rep) (kept) (rc) (los) (wai) (set) (bad) (gon) (bk) (bp) (bv) (chC bk (set (tn x0)) (fun q => q) 16) (chP bk (set (tn x0)) (fun q => q) cp 16) (chV bk (set (tn x0)) (fun q => q) (lag bk bp bv) cv 16) (ek) (em))) := hD
    refine lv_i2l (v := (bI (bv (tn x1))).toInt64) hx hb dL_rebuilt_8 rfl ?_
    refine va_last (f := f) hx hb hK hP hD hS 0 3 rfl rfl (vp_in_nI (by decide) (by decide)) dL_rebuilt_9 (fun H locs hP hD hS => ?_)
    have hP : va_P D vwCl (wL cL q (vp_updL f (nI 0).toNatClampNeg (bI (bv (tn x1))).toInt64) (wF cI cZ cQ ad (pat) (sent) (rep) (kept) (rc) (los) (wai) (set) (bad) (gon) (bk) (bp) (bv) (chC bk (set (tn x0)) (fun q => q) 16) (chP bk (set (tn x0)) (fun q => q) cp 16) (chV bk (set (tn x0)) (fun q => q) (lag bk bp bv) cv 16) (ek) (em))) H := hP
    have hD : va_D A (wL cL q (vp_updL f (nI 0).toNatClampNeg (bI (bv (tn x1))).toInt64) (wF cI cZ cQ ad (pat) (sent) (rep) (kept) (rc) (los) (wai) (set) (bad) (gon) (bk) (bp) (bv) (chC bk (set (tn x0)) (fun q => q) 16) (chP bk (set (tn x0)) (fun q => q) cp 16) (chV bk (set (tn x0)) (fun q => q) (lag bk bp bv) cv 16) (ek) (em))) := hD
    refine lv_goto (tgt := 21) hx hb dL_rebuilt_10 (by decide) ?_
    refine lv_iconst (v := nI (0)) hx hb dL_rebuilt_21 (by decide) ?_
    exact W.iret (v := nI (0)) hx hb hr (fun t ht hW => ⟨⟨_, _, rfl, Or.inl ⟨rfl, hok, _, updL_n _ _, rfl⟩, by rw [ht]; exact hP, hD⟩, hS.F ht⟩) hS.2.2 dL_rebuilt_22

set_option maxHeartbeats 4000000 in
set_option maxRecDepth 100000 in
theorem c_L_rebuiltByElimination (l : Launch) (D : va_G) (cI cZ cQ cL : ClassId) (hfl : l.stackTraces = false) (b0 : Nat) (q : Nat) (f : Nat → Int64) (ad : Nat → Nat) (pat : Nat) (sent : Nat) (rep : Nat) (kept : Nat) (rc : Nat) (los : Nat → Nat) (wai : Nat → Nat) (set : Nat → Nat) (bad : Nat → Nat) (gon : Nat → Nat) (bk : Nat) (bp : Nat → B8) (bv : Nat → B8) (ck : Nat) (cp : Nat → B8) (cv : Nat → B8) (ek : Nat) (em : Nat → Nat → B8) (x0 : Int32) (x1 : Int32) (sz : Nat) (hrc : rc ≤ 6) (hset : ∀ r, r < 6 → set r < 65536) (hbk : bk ≤ 8) (hbp : ∀ i, i < bk → bp i = BitVec.ofNat 8 i) : Met l yL_rebuiltByElimination wsL_rebuiltByElimination ({ frames := 9, cells := 3, slots := 18, locals := 162 } : Room) (PX b0 D (TY cI cZ cQ cL) (wL cL q f (wF cI cZ cQ ad (pat) (sent) (rep) (kept) (rc) (los) (wai) (set) (bad) (gon) (bk) (bp) (bv) (ck) (cp) (cv) (ek) (em))) sz [.ref (ad 0), .int (x0), .int (x1), .ref (q)]) (QI D (va_A (wL cL q f (wF cI cZ cQ ad (pat) (sent) (rep) (kept) (rc) (los) (wai) (set) (bad) (gon) (bk) (bp) (bv) (ck) (cp) (cv) (ek) (em))) sz) (fun z9 (u9 : va_W) => (z9 = nI (0) ∧ ((0 ≤ x0.toInt ∧ x0.toInt < rc) ∧ (0 ≤ x1.toInt ∧ x1.toInt < bk) ∧ bk ≤ pc (set (tn x0))) ∧ ∃ g : Nat → Int64, g 0 = (bI (bv (tn x1))).toInt64 ∧ u9 = (wL cL q g (wF cI cZ cQ ad (pat) (sent) (rep) (kept) (rc) (los) (wai) (set) (bad) (gon) (bk) (bp) (bv) (chC bk (set (tn x0)) (fun q => 15 - q) 16) (chP bk (set (tn x0)) (fun q => 15 - q) cp 16) (chV bk (set (tn x0)) (fun q => 15 - q) (lag bk bp bv) cv 16) (chC bk (set (tn x0)) (fun q => 15 - q) 16) (elN (chC bk (set (tn x0)) (fun q => 15 - q) 16) (wrR (chC bk (set (tn x0)) (fun q => 15 - q) 16) (chP bk (set (tn x0)) (fun q => 15 - q) cp 16) (chV bk (set (tn x0)) (fun q => 15 - q) (lag bk bp bv) cv 16) em (chC bk (set (tn x0)) (fun q => 15 - q) 16)) (chC bk (set (tn x0)) (fun q => 15 - q) 16))))) ∨ (z9 = nI (1) ∧ (¬ ((0 ≤ x0.toInt ∧ x0.toInt < rc) ∧ (0 ≤ x1.toInt ∧ x1.toInt < bk))) ∧ u9 = (wL cL q f (wF cI cZ cQ ad (pat) (sent) (rep) (kept) (rc) (los) (wai) (set) (bad) (gon) (bk) (bp) (bv) (ck) (cp) (cv) (ek) (em)))) ∨ (z9 = nI (2) ∧ (((0 ≤ x0.toInt ∧ x0.toInt < rc) ∧ (0 ≤ x1.toInt ∧ x1.toInt < bk)) ∧ ¬ (bk ≤ pc (set (tn x0)))) ∧ u9 = (wL cL q f (wF cI cZ cQ ad (pat) (sent) (rep) (kept) (rc) (los) (wai) (set) (bad) (gon) (bk) (bp) (bv) (ck) (cp) (cv) (ek) (em))))) (fun u9 => u9)) 3 18 (va_A (wL cL q f (wF cI cZ cQ ad (pat) (sent) (rep) (kept) (rc) (los) (wai) (set) (bad) (gon) (bk) (bp) (bv) (ck) (cp) (cv) (ek) (em))) sz) := by
  refine q_ofWH (hh := [(0, 10, 13, 18), (0, 10, 17, 20)]) (cc := cL_rebuiltByElimination) (maxL := 5) (ret := (some .int)) (by decide) rfl ?_
  intro p e s m args below meth c s₁ B hml htab hv
  obtain ⟨rfl, hsz, hP, hK, hD0, hN, hX⟩ := hv
  have hx := B.exec
  have hb := B.bytes
  have hr := B.returns
  have hts := atoms_spec (ws := wsL_rebuiltByElimination) B.pre
  have hown : s.vm.findClass RL = some m.cls := findClass_of_methodNamed B.named
  have hlocks := B.notSynchronized
  subst hsz
  have hD := hD0.self (sz := s.heap.size)
  generalize hAe : va_A (wL cL q f (wF cI cZ cQ ad (pat) (sent) (rep) (kept) (rc) (los) (wai) (set) (bad) (gon) (bk) (bp) (bv) (ck) (cp) (cv) (ek) (em))) s.heap.size = A at hD ⊢
  have hA : ∀ q : Nat, s.heap.size ≤ q → A q := fun q h => by rw [← hAe]; exact Or.inr h
  have hS : va_S A s.heap s.heap [] := va_S.rf
  have hl := lv_entry ([.ref (ad 0), .int (x0), .int (x1), .ref (q)]) (n := 5) (Nat.le_of_ble_eq_true rfl)
  rw [lg_entry_eq]
  generalize (lg_sl ([.ref (ad 0), .int (x0), .int (x1), .ref (q)]) ++ List.replicate (5 - (lg_sl ([.ref (ad 0), .int (x0), .int (x1), .ref (q)])).length) Slot.unset).toArray = ls at hl ⊢
  have hl : lv_has ls 5 [(0, .ref (ad 0)), (1, .int (x0)), (2, .int (x1)), (3, .ref (q))] := hl
  refine lv_aload_n hx hb dL_rebuiltByElimination_0 rfl (lv_at hl 3 rfl) ?_
  refine lv_iconst (v := nI (0)) hx hb dL_rebuiltByElimination_1 (by decide) ?_
  refine lv_aload_n hx hb dL_rebuiltByElimination_2 rfl (lv_at hl 0 rfl) ?_
  refine lv_iload_n hx hb dL_rebuiltByElimination_3 rfl (lv_at hl 1 rfl) ?_
  refine lv_iload_n hx hb dL_rebuiltByElimination_4 rfl (lv_at hl 2 rfl) ?_
  have hPc := hP.sub (ws' := (wF cI cZ cQ ad (pat) (sent) (rep) (kept) (rc) (los) (wai) (set) (bad) (gon) (bk) (bp) (bv) (ck) (cp) (cv) (ek) (em))) [1, 2, 3, 4, 5, 6, 7, 8, 9, 10, 11, 12, 13, 14, 15, 16, 17, 18, 19, 20, 21, 22] rfl
  have hDc := hD.sub (ws' := (wF cI cZ cQ ad (pat) (sent) (rep) (kept) (rc) (los) (wai) (set) (bad) (gon) (bk) (bp) (bv) (ck) (cp) (cv) (ek) (em))) [1, 2, 3, 4, 5, 6, 7, 8, 9, 10, 11, 12, 13, 14, 15, 16, 17, 18, 19, 20, 21, 22] (by decide) rfl
  refine q_xci (wc := (wF cI cZ cQ ad (pat) (sent) (rep) (kept) (rc) (los) (wai) (set) (bad) (gon) (bk) (bp) (bv) (ck) (cp) (cv) (ek) (em))) (wr := [(q, .inl (cL, 1, .inr (.inl f)))]) (w1 := fun _ => (wF cI cZ cQ ad (pat) (sent) (rep) (kept) (rc) (los) (wai) (set) (bad) (gon) (bk) (bp) (bv) (chC bk (set (tn x0)) (fun q => 15 - q) 16) (chP bk (set (tn x0)) (fun q => 15 - q) cp 16) (chV bk (set (tn x0)) (fun q => 15 - q) (lag bk bp bv) cv 16) (chC bk (set (tn x0)) (fun q => 15 - q) 16) (elN (chC bk (set (tn x0)) (fun q => 15 - q) 16) (wrR (chC bk (set (tn x0)) (fun q => 15 - q) 16) (chP bk (set (tn x0)) (fun q => 15 - q) cp 16) (chV bk (set (tn x0)) (fun q => 15 - q) (lag bk bp bv) cv 16) em (chC bk (set (tn x0)) (fun q => 15 - q) 16)) (chC bk (set (tn x0)) (fun q => 15 - q) 16)))) (vx_runV (As := [.int (x0), .int (x1)]) (rest := [.int (nI (0)), .ref (q)]) ⟨hx, hb, hml, hown, hts⟩ (c_X3_rebuiltByElimination l D cI cZ cQ cL hfl b0 (ad) (pat) (sent) (rep) (kept) (rc) (los) (wai) (set) (bad) (gon) (bk) (bp) (bv) (ck) (cp) (cv) (ek) (em) (x0) (x1) s.heap.size hrc hset hbk hbp) (cwV 2 hts gL_rebuiltByElimination_X3_rebuiltByElimination rfl rfl rfl ⟨rfl, hd_X3_rebuiltByElimination⟩ ⟨Nat.le_of_ble_eq_true rfl, Nat.le_of_ble_eq_true rfl⟩) (PX_v (q := (RX3, TX3, 13)) (ci := 2) (q0 := 0) hPc hK hDc hN hX (fun _ _ _ => rfl) rfl rfl) rfl rfl hl.1 rfl (lv_room (Nat.le_of_ble_eq_true rfl)) dL_rebuiltByElimination_5 ⟨Nat.le_of_ble_eq_true rfl, Nat.le_of_ble_eq_true rfl⟩) hP hD hS hA [1, 2, 3, 4, 5, 6, 7, 8, 9, 10, 11, 12, 13, 14, 15, 16, 17, 18, 19, 20, 21, 22] [0] rfl rfl (by decide) (by decide) (fun E ce q9 H locs hE hP hD hS hce hcv hcl => ?_) (fun r H locs h hP hD hS => ?_)
  · rcases hE with ⟨rfl, hc⟩ | ⟨rfl, hc⟩
    · refine vx_catch (own := RL) (name := "java/lang/IndexOutOfBoundsException") hown [] ⟨0, 10, 13, 18⟩ [⟨0, 10, 17, 20⟩] (by rw [htab]; rfl) (fun z hz => by cases hz) rfl (by decide) (hts (.classLink RL 18 "java/lang/IndexOutOfBoundsException") (List.mem_of_getElem? (i := 1) rfl)) (hX_cs hX (by decide)) hce hcv hcl ?_
      refine lv_astore (lv' := [(4, .ref (q9)), (0, .ref (ad 0)), (1, .int (x0)), (2, .int (x1)), (3, .ref (q))]) hx hb dL_rebuiltByElimination_13 hl (by decide) rfl (fun ls hl => ?_)
      refine lv_iconst (v := nI (1)) hx hb dL_rebuiltByElimination_15 (by decide) ?_
      exact W.iret (v := nI (1)) hx hb hr (fun t ht hW => ⟨⟨_, (wL cL q f (wF cI cZ cQ ad (pat) (sent) (rep) (kept) (rc) (los) (wai) (set) (bad) (gon) (bk) (bp) (bv) (ck) (cp) (cv) (ek) (em))), rfl, Or.inr (Or.inl ⟨rfl, hc, rfl⟩), by rw [ht]; exact hP, hD⟩, hS.F ht⟩) hS.2.2 dL_rebuiltByElimination_16
    · refine vx_catch (own := RL) (name := "java/lang/IllegalStateException") hown [⟨0, 10, 13, 18⟩] ⟨0, 10, 17, 20⟩ [] (by rw [htab]; rfl) (fun z hz => by obtain rfl := List.mem_singleton.mp hz; exact Or.inr ⟨by decide, "java/lang/IndexOutOfBoundsException", (hts (.classLink RL 18 "java/lang/IndexOutOfBoundsException") (List.mem_of_getElem? (i := 1) rfl)), hX_nc hX (by decide)⟩) rfl (by decide) (hts (.classLink RL 20 "java/lang/IllegalStateException") (List.mem_of_getElem? (i := 2) rfl)) (hX_cs hX (by decide)) hce hcv hcl ?_
      refine lv_astore (lv' := [(4, .ref (q9)), (0, .ref (ad 0)), (1, .int (x0)), (2, .int (x1)), (3, .ref (q))]) hx hb dL_rebuiltByElimination_17 hl (by decide) rfl (fun ls hl => ?_)
      refine lv_iconst (v := nI (2)) hx hb dL_rebuiltByElimination_19 (by decide) ?_
      exact W.iret (v := nI (2)) hx hb hr (fun t ht hW => ⟨⟨_, (wL cL q f (wF cI cZ cQ ad (pat) (sent) (rep) (kept) (rc) (los) (wai) (set) (bad) (gon) (bk) (bp) (bv) (ck) (cp) (cv) (ek) (em))), rfl, Or.inr (Or.inr (⟨rfl, hc, rfl⟩)), by rw [ht]; exact hP, hD⟩, hS.F ht⟩) hS.2.2 dL_rebuiltByElimination_20
  · obtain ⟨hrr, hok⟩ := h
    subst hrr
    have hP : va_P D vwCl (wL cL q f (wF cI cZ cQ ad (pat) (sent) (rep) (kept) (rc) (los) (wai) (set) (bad) (gon) (bk) (bp) (bv) (chC bk (set (tn x0)) (fun q => 15 - q) 16) (chP bk (set (tn x0)) (fun q => 15 - q) cp 16) (chV bk (set (tn x0)) (fun q => 15 - q) (lag bk bp bv) cv 16) (chC bk (set (tn x0)) (fun q => 15 - q) 16) (elN (chC bk (set (tn x0)) (fun q => 15 - q) 16) (wrR (chC bk (set (tn x0)) (fun q => 15 - q) 16) (chP bk (set (tn x0)) (fun q => 15 - q) cp 16) (chV bk (set (tn x0)) (fun q => 15 - q) (lag bk bp bv) cv 16) em (chC bk (set (tn x0)) (fun q => 15 - q) 16)) (chC bk (set (tn x0)) (fun q => 15 - q) 16)))) H := hP
    have hD : va_D A (wL cL q f (wF cI cZ cQ ad (pat) (sent) (rep) (kept) (rc) (los) (wai) (set) (bad) (gon) (bk) (bp) (bv) (chC bk (set (tn x0)) (fun q => 15 - q) 16) (chP bk (set (tn x0)) (fun q => 15 - q) cp 16) (chV bk (set (tn x0)) (fun q => 15 - q) (lag bk bp bv) cv 16) (chC bk (set (tn x0)) (fun q => 15 - q) 16) (elN (chC bk (set (tn x0)) (fun q => 15 - q) 16) (wrR (chC bk (set (tn x0)) (fun q => 15 - q) 16) (chP bk (set (tn x0)) (fun q => 15 - q) cp 16) (chV bk (set (tn x0)) (fun q => 15 - q) (lag bk bp bv) cv 16) em (chC bk (set (tn x0)) (fun q => 15 - q) 16)) (chC bk (set (tn x0)) (fun q => 15 - q) 16)))) := hD
    refine lv_i2l (v := (bI (bv (tn x1))).toInt64) hx hb dL_rebuiltByElimination_8 rfl ?_
    refine va_last (f := f) hx hb hK hP hD hS 0 3 rfl rfl (vp_in_nI (by decide) (by decide)) dL_rebuiltByElimination_9 (fun H locs hP hD hS => ?_)
    have hP : va_P D vwCl (wL cL q (vp_updL f (nI 0).toNatClampNeg (bI (bv (tn x1))).toInt64) (wF cI cZ cQ ad (pat) (sent) (rep) (kept) (rc) (los) (wai) (set) (bad) (gon) (bk) (bp) (bv) (chC bk (set (tn x0)) (fun q => 15 - q) 16) (chP bk (set (tn x0)) (fun q => 15 - q) cp 16) (chV bk (set (tn x0)) (fun q => 15 - q) (lag bk bp bv) cv 16) (chC bk (set (tn x0)) (fun q => 15 - q) 16) (elN (chC bk (set (tn x0)) (fun q => 15 - q) 16) (wrR (chC bk (set (tn x0)) (fun q => 15 - q) 16) (chP bk (set (tn x0)) (fun q => 15 - q) cp 16) (chV bk (set (tn x0)) (fun q => 15 - q) (lag bk bp bv) cv 16) em (chC bk (set (tn x0)) (fun q => 15 - q) 16)) (chC bk (set (tn x0)) (fun q => 15 - q) 16)))) H := hP
    have hD : va_D A (wL cL q (vp_updL f (nI 0).toNatClampNeg (bI (bv (tn x1))).toInt64) (wF cI cZ cQ ad (pat) (sent) (rep) (kept) (rc) (los) (wai) (set) (bad) (gon) (bk) (bp) (bv) (chC bk (set (tn x0)) (fun q => 15 - q) 16) (chP bk (set (tn x0)) (fun q => 15 - q) cp 16) (chV bk (set (tn x0)) (fun q => 15 - q) (lag bk bp bv) cv 16) (chC bk (set (tn x0)) (fun q => 15 - q) 16) (elN (chC bk (set (tn x0)) (fun q => 15 - q) 16) (wrR (chC bk (set (tn x0)) (fun q => 15 - q) 16) (chP bk (set (tn x0)) (fun q => 15 - q) cp 16) (chV bk (set (tn x0)) (fun q => 15 - q) (lag bk bp bv) cv 16) em (chC bk (set (tn x0)) (fun q => 15 - q) 16)) (chC bk (set (tn x0)) (fun q => 15 - q) 16)))) := hD
    refine lv_goto (tgt := 21) hx hb dL_rebuiltByElimination_10 (by decide) ?_
    refine lv_iconst (v := nI (0)) hx hb dL_rebuiltByElimination_21 (by decide) ?_
    exact W.iret (v := nI (0)) hx hb hr (fun t ht hW => ⟨⟨_, _, rfl, Or.inl ⟨rfl, hok, _, updL_n _ _, rfl⟩, by rw [ht]; exact hP, hD⟩, hS.F ht⟩) hS.2.2 dL_rebuiltByElimination_22
