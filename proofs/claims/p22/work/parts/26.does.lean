/-- a body with a table, that never throws -/
theorem q_ofWH {l : Launch} {y : MethodName} {ws ws' : List Cond} {rm : Room} {Pc : Array Value → State → Prop} {Qc : Array Value → State → Outcome → State → Prop} {mc ms : Nat} {free : Addr → Prop} {cc : ByteArray} {maxL : Nat} {ret : Option FieldType} {hh : List (Nat × Nat × Nat × Nat)}
    (hy : plainName y.cls = true) (hw : ws = Cond.codeWith y cc maxL ret hh :: ws')
    (body : ∀ p e s m args below meth c s₁, BodyLoose p l y (headSpec ws rm) cc maxL ret e s m args below meth c s₁ → c.maxLocals = maxL → c.exceptionTable.toList = tableOf hh → Pc args s →
      W p l e (headSpec ws rm).room s m args below meth c s.heap [] 0 0 (MQ below Qc args s mc ms free) (entryFrame m args maxL)) : Met l y ws rm Pc Qc mc ms free := by
  refine MetFree.of_bodyS (code := cc) (maxLocals := maxL) (ret := ret) hy ?_ ?_
  · intro args s m h hn
    obtain ⟨m9, meth, c, hn9, h1, h2, h3, h4, -, h5, h6, -⟩ := Cond.codeWith_spec (atoms_spec (ws := ws) h _ (by rw [hw]; exact List.mem_cons_self))
    cases hn.symm.trans hn9
    exact ⟨meth, c, h1, h2, h3, h4, h5, h6⟩
  · intro p e s m args below meth c s₁ B hml hP _
    have hh0 : s₁.heap = s.heap := by rw [B.state]; rfl
    obtain ⟨t, a1, o, b1, b2, b3⟩ := body p e s m args below meth c s₁ B hml (vx_table (x := y) B (atoms_spec (ws := ws) B.pre _ (by rw [hw]; exact List.mem_cons_self))) hP s₁ hh0 (Stand.of_body B)
    exact ⟨t, o, a1, b1, b2, ⟨b3.1, b3.2⟩⟩
section Q7
variable {p : Program} {l : Launch} {e : Env} {R : Room} {s : State} {m : MethodId} {args : Array Value} {below : List Frame} {meth : Method} {c : Code} {H : Heap} {locs : List Loc} {cells slots : Nat} {Q : State → Prop}
variable {cc : ByteArray} {pc : Nat} {ls : Array Slot} {rest st0 : List Value} {D : va_G} {cl : List vw_C} {A A0 : Nat → Prop} {a : Array Value} {tys : List (ClassId × FieldType)} {H0 : Heap} {mc ms : Nat}
/-- a call that writes or throws; what is thrown is met here -/
theorem q_xci {post : Int32 → Unit → Prop} {exc : String → Prop} {ws wc wr : va_W} {w1 : Unit → va_W} (hr : vx_Run p l e R s m args below meth c H locs cells slots mc ms (F0 m pc ls st0) rest (va_Qi post (fun u t => va_P D cl (w1 u) t.heap ∧ va_D (va_A wc H.size) (w1 u)) (va_A wc H.size) a) (XC exc) (va_A wc H.size))
    (hP : va_P D cl ws H) (hD : va_D A0 ws) (hS : va_S A0 H0 H locs) (hA : ∀ q, H0.size ≤ q → A0 q) (isC isR : List Nat) (hC : isC.map (fun i => ws[i]?) = wc.map some) (hR : isR.map (fun i => ws[i]?) = wr.map some) (hn : va_nd isR = true) (hdis : ∀ i ∈ isR, i ∉ isC)
    (kx : ∀ (E : String) (ce : Cell) (q9 : Addr) (H1 : Heap) (locs1 : List Loc), exc E → va_P D cl ws H1 → va_D A0 ws → va_S A0 H0 H1 locs1 → H1[q9]? = some ce → ce.vm = .none → s.vm.findClass E = some ce.cls → vx_W p l e R s m args below meth c H1 locs1 (cells + mc) (slots + ms) Q (F0 m pc ls rest) q9)
    (kk : ∀ (r : Int32) (H1 : Heap) (locs1 : List Loc), post r () → va_P D cl (wr ++ w1 ()) H1 → va_D A0 (wr ++ w1 ()) → va_S A0 H0 H1 locs1 → W p l e R s m args below meth c H1 locs1 (cells + mc) (slots + ms) Q (F0 m (pc + 3) ls (.int r :: rest))) : W p l e R s m args below meth c H locs cells slots Q (F0 m pc ls st0) := by
  have hF : ∀ q, va_A wc H.size q → A0 q := va_free hD hS hA isC hC
  refine vx_calli hr hS (fun q _ h => hF q h) hF (fun q _ h => h.elim) (fun E ce q9 u t H1 locs1 ht hvm hw hB hz1 hk1 hS1 hce hcv hcl => ?_) (fun r u t H1 locs1 ht hvm hw hB hz1 hk1 hS1 => ?_)
  · exact kx E ce q9 H1 locs1 hB (hP.kept (fun k x hx => hk1 x.1 ((hP k x hx).lt) (fun h => h))) hD hS1 hce hcv hcl
  · obtain ⟨hP1, hD1⟩ := hB
    rw [ht] at hP1
    obtain ⟨hP2, hD2⟩ := va_join hP hD isC isR hC hR hn hdis hk1 hF hP1 hD1
    exact kk r H1 locs1 hw hP2 hD2 hS1
/-- a call that reads or throws; what is thrown is met here -/
theorem q_xcsi {post : Int32 → Prop} {exc : String → Prop} {ws : va_W} (hr : vx_Run p l e R s m args below meth c H locs cells slots mc ms (F0 m pc ls st0) rest (vp_Si post a) (XC exc) (fun _ => False))
    (hP : va_P D cl ws H) (hD : va_D A0 ws) (hS : va_S A0 H0 H locs)
    (kx : ∀ (E : String) (ce : Cell) (q9 : Addr) (H1 : Heap) (locs1 : List Loc), exc E → va_P D cl ws H1 → va_D A0 ws → va_S A0 H0 H1 locs1 → H1[q9]? = some ce → ce.vm = .none → s.vm.findClass E = some ce.cls → vx_W p l e R s m args below meth c H1 locs1 (cells + mc) (slots + ms) Q (F0 m pc ls rest) q9)
    (kk : ∀ (r : Int32), post r → W p l e R s m args below meth c H locs (cells + mc) (slots + ms) Q (F0 m (pc + 3) ls (.int r :: rest))) : W p l e R s m args below meth c H locs cells slots Q (F0 m pc ls st0) := by
  intro T hT X
  rcases hr T hT X with ⟨v, st₀, t, T', L, h0, X', hL, e1, e2, ⟨r, hv, hp, hh⟩, st⟩ | ⟨q, st₀, t, T', L, E, ce, h0, X', hL, e1, e2, ⟨u, hp, hb, hF⟩, hce, hcv, hcl, st⟩
  · cases hv
    obtain ⟨t2, a1, b1⟩ := kk r hp T' (by rw [e1, hh, h0]) (Stand.forget X' (fun q h => (hL q h).elim))
    exact ⟨t2, st t2 a1, b1⟩
  · obtain ⟨k1, k2, k3⟩ := vx_keep (A1 := fun _ => False) (free := fun _ => False) h0 e1 hS (fun q _ h => h.elim) (fun q h => h.elim) hL hF
    obtain ⟨t2, a1, b1⟩ := kx E ce q T'.heap (locs ++ L) hb (hP.kept (fun k x hx => k2 x.1 ((hP k x hx).lt) (fun h => h))) hD k3 (by rw [e1]; exact hce) hcv hcl T' rfl X'
    exact ⟨t2, st.trans a1, b1⟩
end Q7
theorem hX_nc {b0 : Nat} {U : State} (h : XK b0 U) {E nm : String} (hm : (E, nm) ∈ ncW) : va_Nc E nm U := h.2.2.2.1 _ hm
theorem hX_cs {b0 : Nat} {s : State} {args : Array Value} (h : XK b0 s) {w : Cond} (hm : w ∈ cstW) : w.before args s = true := va_Nw.use (cstW_on w hm) (h.2.2.2.2 w hm)
set_option maxHeartbeats 4000000 in
set_option maxRecDepth 100000 in
theorem c_L_does0 (l : Launch) (D : va_G) (cI cZ cQ cL : ClassId) (hfl : l.stackTraces = false) (b0 : Nat) (ad : Nat → Nat) (pat : Nat) (sent : Nat) (rep : Nat) (kept : Nat) (rc : Nat) (los : Nat → Nat) (wai : Nat → Nat) (set : Nat → Nat) (bad : Nat → Nat) (gon : Nat → Nat) (bk : Nat) (bp : Nat → B8) (bv : Nat → B8) (x0 : Int32) (x1 : Int32) (sz : Nat) (hbk : bk ≤ 8) (hse : sent ≤ 10000) (hx0 : 0 ≤ x0.toInt ∧ x0.toInt < bk) (hx1 : 0 ≤ x1.toInt ∧ x1.toInt ≤ 255) : Met l yL_does wsL_does ({ frames := 9, cells := 2, slots := 12, locals := 162 } : Room) (PX b0 D (TY cI cZ cQ cL) (wA cI cZ ad (pat) (sent) (rep) (kept) (rc) (los) (wai) (set) (bad) (gon) (bk) (bp) (bv)) sz [.ref (ad 0), .int (nI (0)), .int (x0), .int (x1)]) (QI D (va_A (wA cI cZ ad (pat) (sent) (rep) (kept) (rc) (los) (wai) (set) (bad) (gon) (bk) (bp) (bv)) sz) (fun (z9 : Int32) (u9 : va_W) => (z9 = bI (bv (tn x0)) ∧ (sent = 0) ∧ u9 = (wA cI cZ ad (pat) (sent) (rep) (kept) (rc) (los) (wai) (set) (bad) (gon) (bk) (bp) (ub bv (tn x0) (BitVec.ofNat 8 (tn x1))))) ∨ (z9 = (-13) ∧ (¬ sent = 0) ∧ u9 = (wA cI cZ ad (pat) (sent) (rep) (kept) (rc) (los) (wai) (set) (bad) (gon) (bk) (bp) (bv)))) (fun u9 => u9)) 2 12 (va_A (wA cI cZ ad (pat) (sent) (rep) (kept) (rc) (los) (wai) (set) (bad) (gon) (bk) (bp) (bv)) sz) := by
  refine q_ofWH (hh := [(0, 72, 73, 46), (0, 72, 78, 48)]) (cc := cL_does) (maxL := 5) (ret := (some .int)) (by decide) rfl ?_
  intro p e s m args below meth c s₁ B hml htab hv
  obtain ⟨rfl, hsz, hP, hK, hD0, hN, hX⟩ := hv
  have hx := B.exec
  have hb := B.bytes
  have hr := B.returns
  have hts := atoms_spec (ws := wsL_does) B.pre
  have hown : s.vm.findClass RL = some m.cls := findClass_of_methodNamed B.named
  have hlocks := B.notSynchronized
  subst hsz
  have hD := hD0.self (sz := s.heap.size)
  generalize hAe : va_A (wA cI cZ ad (pat) (sent) (rep) (kept) (rc) (los) (wai) (set) (bad) (gon) (bk) (bp) (bv)) s.heap.size = A at hD ⊢
  have hA : ∀ q : Nat, s.heap.size ≤ q → A q := fun q h => by rw [← hAe]; exact Or.inr h
  have hS : va_S A s.heap s.heap [] := va_S.rf
  have hl := lv_entry ([.ref (ad 0), .int (nI (0)), .int (x0), .int (x1)]) (n := 5) (Nat.le_of_ble_eq_true rfl)
  rw [lg_entry_eq]
  generalize (lg_sl ([.ref (ad 0), .int (nI (0)), .int (x0), .int (x1)]) ++ List.replicate (5 - (lg_sl ([.ref (ad 0), .int (nI (0)), .int (x0), .int (x1)])).length) Slot.unset).toArray = ls at hl ⊢
  have hl : lv_has ls 5 [(0, .ref (ad 0)), (1, .int (nI (0))), (2, .int (x0)), (3, .int (x1))] := hl
  refine lv_iload_n hx hb dL_does_0 rfl (lv_at hl 1 rfl) ?_
  refine q_if_ne (u := ((0 : Nat) : Int)) (tgt := 13) hx hb dL_does_1 (by decide) (nI_toInt (by omega)) (fun c_1 => absurd c_1 (by decide)) (fun _ => ?_)
  refine lv_aload_n hx hb dL_does_4 rfl (lv_at hl 0 rfl) ?_
  refine lv_iload_n hx hb dL_does_5 rfl (lv_at hl 2 rfl) ?_
  refine lv_iload_n hx hb dL_does_6 rfl (lv_at hl 3 rfl) ?_
  refine q_xci (wc := (wA cI cZ ad (pat) (sent) (rep) (kept) (rc) (los) (wai) (set) (bad) (gon) (bk) (bp) (bv))) (wr := []) (w1 := fun _ => (wA cI cZ ad (pat) (sent) (rep) (kept) (rc) (los) (wai) (set) (bad) (gon) (bk) (bp) (ub bv (tn x0) (BitVec.ofNat 8 (tn x1))))) (vx_runV (As := [.int (x0), .int (x1)]) (rest := []) ⟨hx, hb, hml, hown, hts⟩ (c_X3_setDatum l D cI cZ cQ cL hfl b0 ad pat sent rep kept rc los wai set bad gon bk bp bv (x0) (x1) s.heap.size hbk hse) (cwV 2 hts gL_does_X3_setDatum rfl rfl rfl ⟨rfl, hd_X3_setDatum⟩ ⟨Nat.le_of_ble_eq_true rfl, Nat.le_of_ble_eq_true rfl⟩) (PX_v (q := (RX3, TX3, 13)) (ci := 2) (q0 := 0) hP hK hD hN hX (fun _ _ _ => rfl) rfl rfl) rfl rfl hl.1 rfl (lv_room (Nat.le_of_ble_eq_true rfl)) dL_does_7 ⟨Nat.le_of_ble_eq_true rfl, Nat.le_of_ble_eq_true rfl⟩) hP hD hS hA [0, 1, 2, 3, 4, 5, 6, 7, 8] [] rfl rfl (by decide) (by decide) (fun E ce q9 H locs hE hP hD hS hce hcv hcl => ?_) (fun r H locs h hP hD hS => ?_)
  · rcases hE with ⟨rfl, hc⟩ | ⟨rfl, hc⟩ | ⟨rfl, hc⟩
    · exact absurd hx0 hc
    · exact absurd hx1 hc.2
    · refine vx_catch (own := RL) (name := "java/lang/IllegalStateException") hown [⟨0, 72, 73, 46⟩] ⟨0, 72, 78, 48⟩ [] (by rw [htab]; rfl) (fun z hz => by obtain rfl := List.mem_singleton.mp hz; exact Or.inr ⟨by decide, "java/lang/IndexOutOfBoundsException", (hts (.classLink RL 46 "java/lang/IndexOutOfBoundsException") (List.mem_of_getElem? (i := 1) rfl)), hX_nc hX (by decide)⟩) rfl (by decide) (hts (.classLink RL 48 "java/lang/IllegalStateException") (List.mem_of_getElem? (i := 2) rfl)) (hX_cs hX (by decide)) hce hcv hcl ?_
      refine lv_astore (lv' := [(4, .ref (q9)), (0, .ref (ad 0)), (1, .int (nI (0))), (2, .int (x0)), (3, .int (x1))]) hx hb dL_does_78 hl (by decide) rfl (fun ls hl => ?_)
      refine lv_bipush (v := (-13)) hx hb dL_does_80 (by decide) ?_
      exact W.iret (v := (-13)) hx hb hr (fun t ht hW => ⟨⟨_, (wA cI cZ ad (pat) (sent) (rep) (kept) (rc) (los) (wai) (set) (bad) (gon) (bk) (bp) (bv)), rfl, Or.inr (⟨rfl, hc.2.2, rfl⟩), by rw [ht]; exact hP, hD⟩, hS.F ht⟩) hS.2.2 dL_does_82
  · obtain ⟨hrr, hok⟩ := h
    subst hrr
    have hP : va_P D vwCl (wA cI cZ ad (pat) (sent) (rep) (kept) (rc) (los) (wai) (set) (bad) (gon) (bk) (bp) (ub bv (tn x0) (BitVec.ofNat 8 (tn x1)))) H := hP
    have hD : va_D A (wA cI cZ ad (pat) (sent) (rep) (kept) (rc) (los) (wai) (set) (bad) (gon) (bk) (bp) (ub bv (tn x0) (BitVec.ofNat 8 (tn x1)))) := hD
    refine lv_goto (tgt := 72) hx hb dL_does_10 (by decide) ?_
    exact W.iret (v := bI (bv (tn x0))) hx hb hr (fun t ht hW => ⟨⟨_, (wA cI cZ ad (pat) (sent) (rep) (kept) (rc) (los) (wai) (set) (bad) (gon) (bk) (bp) (ub bv (tn x0) (BitVec.ofNat 8 (tn x1)))), rfl, Or.inl ⟨rfl, hok.2.2, rfl⟩, by rw [ht]; exact hP, hD⟩, hS.F ht⟩) hS.2.2 dL_does_72

set_option maxHeartbeats 4000000 in
set_option maxRecDepth 100000 in
theorem c_L_does1 (l : Launch) (D : va_G) (cI cZ cQ cL : ClassId) (hfl : l.stackTraces = false) (b0 : Nat) (ad : Nat → Nat) (pat : Nat) (sent : Nat) (rep : Nat) (kept : Nat) (rc : Nat) (los : Nat → Nat) (wai : Nat → Nat) (set : Nat → Nat) (bad : Nat → Nat) (gon : Nat → Nat) (bk : Nat) (bp : Nat → B8) (bv : Nat → B8) (x0 : Int32) (x1 : Int32) (sz : Nat) (hrc : rc ≤ 6) (hx0 : 0 ≤ x0.toInt ∧ x0.toInt ≤ 2047) (hx1 : 0 ≤ x1.toInt ∧ x1.toInt ≤ 20) : Met l yL_does wsL_does ({ frames := 9, cells := 3, slots := 18, locals := 162 } : Room) (PX b0 D (TY cI cZ cQ cL) (wA cI cZ ad (pat) (sent) (rep) (kept) (rc) (los) (wai) (set) (bad) (gon) (bk) (bp) (bv)) sz [.ref (ad 0), .int (nI (1)), .int (x0), .int (x1)]) (QI D (va_A (wA cI cZ ad (pat) (sent) (rep) (kept) (rc) (los) (wai) (set) (bad) (gon) (bk) (bp) (bv)) sz) (fun (z9 : Int32) (u9 : va_W) => (z9 = nI rc ∧ (rc < 6) ∧ u9 = (wA cI cZ ad (pat) (sent) (rep) (kept) (rc + 1) (un los rc (tn x0)) (un wai rc (tn x1)) (un set rc 0) (un bad rc 0) (un gon rc 0) (bk) (bp) (bv))) ∨ (z9 = (-13) ∧ (¬ rc < 6) ∧ u9 = (wA cI cZ ad (pat) (sent) (rep) (kept) (rc) (los) (wai) (set) (bad) (gon) (bk) (bp) (bv)))) (fun u9 => u9)) 3 18 (va_A (wA cI cZ ad (pat) (sent) (rep) (kept) (rc) (los) (wai) (set) (bad) (gon) (bk) (bp) (bv)) sz) := by
  refine q_ofWH (hh := [(0, 72, 73, 46), (0, 72, 78, 48)]) (cc := cL_does) (maxL := 5) (ret := (some .int)) (by decide) rfl ?_
  intro p e s m args below meth c s₁ B hml htab hv
  obtain ⟨rfl, hsz, hP, hK, hD0, hN, hX⟩ := hv
  have hx := B.exec
  have hb := B.bytes
  have hr := B.returns
  have hts := atoms_spec (ws := wsL_does) B.pre
  have hown : s.vm.findClass RL = some m.cls := findClass_of_methodNamed B.named
  have hlocks := B.notSynchronized
  subst hsz
  have hD := hD0.self (sz := s.heap.size)
  generalize hAe : va_A (wA cI cZ ad (pat) (sent) (rep) (kept) (rc) (los) (wai) (set) (bad) (gon) (bk) (bp) (bv)) s.heap.size = A at hD ⊢
  have hA : ∀ q : Nat, s.heap.size ≤ q → A q := fun q h => by rw [← hAe]; exact Or.inr h
  have hS : va_S A s.heap s.heap [] := va_S.rf
  have hl := lv_entry ([.ref (ad 0), .int (nI (1)), .int (x0), .int (x1)]) (n := 5) (Nat.le_of_ble_eq_true rfl)
  rw [lg_entry_eq]
  generalize (lg_sl ([.ref (ad 0), .int (nI (1)), .int (x0), .int (x1)]) ++ List.replicate (5 - (lg_sl ([.ref (ad 0), .int (nI (1)), .int (x0), .int (x1)])).length) Slot.unset).toArray = ls at hl ⊢
  have hl : lv_has ls 5 [(0, .ref (ad 0)), (1, .int (nI (1))), (2, .int (x0)), (3, .int (x1))] := hl
  refine lv_iload_n hx hb dL_does_0 rfl (lv_at hl 1 rfl) ?_
  refine q_if_ne (u := ((1 : Nat) : Int)) (tgt := 13) hx hb dL_does_1 (by decide) (nI_toInt (by omega)) (fun _ => ?_) (fun c_1 => absurd c_1 (by decide))
  refine lv_iload_n hx hb dL_does_13 rfl (lv_at hl 1 rfl) ?_
  refine lv_iconst (v := nI (1)) hx hb dL_does_14 (by decide) ?_
  refine q_icmp_ne (u := ((1 : Nat) : Int)) (v := ((1 : Nat) : Int)) (tgt := 27) hx hb dL_does_15 (by decide) (nI_toInt (by omega)) (nI_toInt (by omega)) (fun c_15 => absurd c_15 (by decide)) (fun _ => ?_)
  refine lv_aload_n hx hb dL_does_18 rfl (lv_at hl 0 rfl) ?_
  refine lv_iload_n hx hb dL_does_19 rfl (lv_at hl 2 rfl) ?_
  refine lv_iload_n hx hb dL_does_20 rfl (lv_at hl 3 rfl) ?_
  refine q_xci (wc := (wA cI cZ ad (pat) (sent) (rep) (kept) (rc) (los) (wai) (set) (bad) (gon) (bk) (bp) (bv))) (wr := []) (w1 := fun _ => (wA cI cZ ad (pat) (sent) (rep) (kept) (rc + 1) (un los rc (tn x0)) (un wai rc (tn x1)) (un set rc 0) (un bad rc 0) (un gon rc 0) (bk) (bp) (bv))) (vx_runV (As := [.int (x0), .int (x1)]) (rest := []) ⟨hx, hb, hml, hown, hts⟩ (c_X3_join l D cI cZ cQ cL hfl b0 ad pat sent rep kept rc los wai set bad gon bk bp bv (x0) (x1) s.heap.size hrc) (cwV 2 hts gL_does_X3_join rfl rfl rfl ⟨rfl, hd_X3_join⟩ ⟨Nat.le_of_ble_eq_true rfl, Nat.le_of_ble_eq_true rfl⟩) (PX_v (q := (RX3, TX3, 13)) (ci := 2) (q0 := 0) hP hK hD hN hX (fun _ _ _ => rfl) rfl rfl) rfl rfl hl.1 rfl (lv_room (Nat.le_of_ble_eq_true rfl)) dL_does_21 ⟨Nat.le_of_ble_eq_true rfl, Nat.le_of_ble_eq_true rfl⟩) hP hD hS hA [0, 1, 2, 3, 4, 5, 6, 7, 8] [] rfl rfl (by decide) (by decide) (fun E ce q9 H locs hE hP hD hS hce hcv hcl => ?_) (fun r H locs h hP hD hS => ?_)
  · rcases hE with ⟨rfl, hc⟩ | ⟨rfl, hc⟩
    · exact absurd (And.intro hx0 hx1) hc
    · refine vx_catch (own := RL) (name := "java/lang/IllegalStateException") hown [⟨0, 72, 73, 46⟩] ⟨0, 72, 78, 48⟩ [] (by rw [htab]; rfl) (fun z hz => by obtain rfl := List.mem_singleton.mp hz; exact Or.inr ⟨by decide, "java/lang/IndexOutOfBoundsException", (hts (.classLink RL 46 "java/lang/IndexOutOfBoundsException") (List.mem_of_getElem? (i := 1) rfl)), hX_nc hX (by decide)⟩) rfl (by decide) (hts (.classLink RL 48 "java/lang/IllegalStateException") (List.mem_of_getElem? (i := 2) rfl)) (hX_cs hX (by decide)) hce hcv hcl ?_
      refine lv_astore (lv' := [(4, .ref (q9)), (0, .ref (ad 0)), (1, .int (nI (1))), (2, .int (x0)), (3, .int (x1))]) hx hb dL_does_78 hl (by decide) rfl (fun ls hl => ?_)
      refine lv_bipush (v := (-13)) hx hb dL_does_80 (by decide) ?_
      exact W.iret (v := (-13)) hx hb hr (fun t ht hW => ⟨⟨_, (wA cI cZ ad (pat) (sent) (rep) (kept) (rc) (los) (wai) (set) (bad) (gon) (bk) (bp) (bv)), rfl, Or.inr (⟨rfl, hc.2, rfl⟩), by rw [ht]; exact hP, hD⟩, hS.F ht⟩) hS.2.2 dL_does_82
  · obtain ⟨hrr, hok⟩ := h
    subst hrr
    have hP : va_P D vwCl (wA cI cZ ad (pat) (sent) (rep) (kept) (rc + 1) (un los rc (tn x0)) (un wai rc (tn x1)) (un set rc 0) (un bad rc 0) (un gon rc 0) (bk) (bp) (bv)) H := hP
    have hD : va_D A (wA cI cZ ad (pat) (sent) (rep) (kept) (rc + 1) (un los rc (tn x0)) (un wai rc (tn x1)) (un set rc 0) (un bad rc 0) (un gon rc 0) (bk) (bp) (bv)) := hD
    refine lv_goto (tgt := 72) hx hb dL_does_24 (by decide) ?_
    exact W.iret (v := nI rc) hx hb hr (fun t ht hW => ⟨⟨_, (wA cI cZ ad (pat) (sent) (rep) (kept) (rc + 1) (un los rc (tn x0)) (un wai rc (tn x1)) (un set rc 0) (un bad rc 0) (un gon rc 0) (bk) (bp) (bv)), rfl, Or.inl ⟨rfl, hok.2.2, rfl⟩, by rw [ht]; exact hP, hD⟩, hS.F ht⟩) hS.2.2 dL_does_72

set_option maxHeartbeats 4000000 in
set_option maxRecDepth 100000 in
theorem c_L_does2 (l : Launch) (D : va_G) (cI cZ cQ cL : ClassId) (hfl : l.stackTraces = false) (b0 : Nat) (ad : Nat → Nat) (pat : Nat) (sent : Nat) (rep : Nat) (kept : Nat) (rc : Nat) (los : Nat → Nat) (wai : Nat → Nat) (set : Nat → Nat) (bad : Nat → Nat) (gon : Nat → Nat) (bk : Nat) (bp : Nat → B8) (bv : Nat → B8) (x0 : Int32) (x1 : Int32) (sz : Nat) (hrc : rc ≤ 6) (hlos : ∀ r, r < 6 → los r ≤ 2047) (hset : ∀ r, r < 6 → set r < 65536) (hgon : ∀ r, r < 6 → gon r ≤ 1) (hbk : bk ≤ 8) (hse : sent ≤ 10000) (hx0 : 1 ≤ x0.toInt ∧ x0.toInt ≤ 16) (hx1 : (sent : Int) + x0.toInt ≤ 10000) : Met l yL_does wsL_does ({ frames := 9, cells := 1, slots := 6, locals := 162 } : Room) (PX b0 D (TY cI cZ cQ cL) (wA cI cZ ad (pat) (sent) (rep) (kept) (rc) (los) (wai) (set) (bad) (gon) (bk) (bp) (bv)) sz [.ref (ad 0), .int (nI (2)), .int (x0), .int (x1)]) (QI D (va_A (wA cI cZ ad (pat) (sent) (rep) (kept) (rc) (los) (wai) (set) (bad) (gon) (bk) (bp) (bv)) sz) (fun (z9 : Int32) (u9 : va_W) => (z9 = nI (ccn bk (sndM rc sent los gon set (tn x0)) gon rc) ∧ (True) ∧ u9 = (wA cI cZ ad (pat) (sent + tn x0) (rep) (kept) (rc) (los) (wai) (sndM rc sent los gon set (tn x0)) (bad) (gon) (bk) (bp) (bv)))) (fun u9 => u9)) 1 6 (va_A (wA cI cZ ad (pat) (sent) (rep) (kept) (rc) (los) (wai) (set) (bad) (gon) (bk) (bp) (bv)) sz) := by
  refine q_ofWH (hh := [(0, 72, 73, 46), (0, 72, 78, 48)]) (cc := cL_does) (maxL := 5) (ret := (some .int)) (by decide) rfl ?_
  intro p e s m args below meth c s₁ B hml htab hv
  obtain ⟨rfl, hsz, hP, hK, hD0, hN, hX⟩ := hv
  have hx := B.exec
  have hb := B.bytes
  have hr := B.returns
  have hts := atoms_spec (ws := wsL_does) B.pre
  have hown : s.vm.findClass RL = some m.cls := findClass_of_methodNamed B.named
  have hlocks := B.notSynchronized
  subst hsz
  have hD := hD0.self (sz := s.heap.size)
  generalize hAe : va_A (wA cI cZ ad (pat) (sent) (rep) (kept) (rc) (los) (wai) (set) (bad) (gon) (bk) (bp) (bv)) s.heap.size = A at hD ⊢
  have hA : ∀ q : Nat, s.heap.size ≤ q → A q := fun q h => by rw [← hAe]; exact Or.inr h
  have hS : va_S A s.heap s.heap [] := va_S.rf
  have hl := lv_entry ([.ref (ad 0), .int (nI (2)), .int (x0), .int (x1)]) (n := 5) (Nat.le_of_ble_eq_true rfl)
  rw [lg_entry_eq]
  generalize (lg_sl ([.ref (ad 0), .int (nI (2)), .int (x0), .int (x1)]) ++ List.replicate (5 - (lg_sl ([.ref (ad 0), .int (nI (2)), .int (x0), .int (x1)])).length) Slot.unset).toArray = ls at hl ⊢
  have hl : lv_has ls 5 [(0, .ref (ad 0)), (1, .int (nI (2))), (2, .int (x0)), (3, .int (x1))] := hl
  refine lv_iload_n hx hb dL_does_0 rfl (lv_at hl 1 rfl) ?_
  refine q_if_ne (u := ((2 : Nat) : Int)) (tgt := 13) hx hb dL_does_1 (by decide) (nI_toInt (by omega)) (fun _ => ?_) (fun c_1 => absurd c_1 (by decide))
  refine lv_iload_n hx hb dL_does_13 rfl (lv_at hl 1 rfl) ?_
  refine lv_iconst (v := nI (1)) hx hb dL_does_14 (by decide) ?_
  refine q_icmp_ne (u := ((2 : Nat) : Int)) (v := ((1 : Nat) : Int)) (tgt := 27) hx hb dL_does_15 (by decide) (nI_toInt (by omega)) (nI_toInt (by omega)) (fun _ => ?_) (fun c_15 => absurd c_15 (by decide))
  refine lv_iload_n hx hb dL_does_27 rfl (lv_at hl 1 rfl) ?_
  refine lv_iconst (v := nI (2)) hx hb dL_does_28 (by decide) ?_
  refine q_icmp_ne (u := ((2 : Nat) : Int)) (v := ((2 : Nat) : Int)) (tgt := 40) hx hb dL_does_29 (by decide) (nI_toInt (by omega)) (nI_toInt (by omega)) (fun c_29 => absurd c_29 (by decide)) (fun _ => ?_)
  refine lv_aload_n hx hb dL_does_32 rfl (lv_at hl 0 rfl) ?_
  refine lv_iload_n hx hb dL_does_33 rfl (lv_at hl 2 rfl) ?_
  refine q_xci (wc := (wA cI cZ ad (pat) (sent) (rep) (kept) (rc) (los) (wai) (set) (bad) (gon) (bk) (bp) (bv))) (wr := []) (w1 := fun _ => (wA cI cZ ad (pat) (sent + tn x0) (rep) (kept) (rc) (los) (wai) (sndM rc sent los gon set (tn x0)) (bad) (gon) (bk) (bp) (bv))) (vx_runV (As := [.int (x0)]) (rest := []) ⟨hx, hb, hml, hown, hts⟩ (c_X3_send l D cI cZ cQ cL hfl b0 ad pat sent rep kept rc los wai set bad gon bk bp bv (x0) s.heap.size hrc hlos hset hgon hbk hse) (cwV 1 hts gL_does_X3_send rfl rfl rfl ⟨rfl, hd_X3_send⟩ ⟨Nat.le_of_ble_eq_true rfl, Nat.le_of_ble_eq_true rfl⟩) (PX_v (q := (RX3, TX3, 13)) (ci := 2) (q0 := 0) hP hK hD hN hX (fun _ _ _ => rfl) rfl rfl) rfl rfl hl.1 rfl (lv_room (Nat.le_of_ble_eq_true rfl)) dL_does_34 ⟨Nat.le_of_ble_eq_true rfl, Nat.le_of_ble_eq_true rfl⟩) hP hD hS hA [0, 1, 2, 3, 4, 5, 6, 7, 8] [] rfl rfl (by decide) (by decide) (fun E ce q9 H locs hE hP hD hS hce hcv hcl => ?_) (fun r H locs h hP hD hS => ?_)
  · rcases hE with ⟨rfl, hc⟩ | ⟨rfl, hc⟩
    · exact absurd hx0 hc
    · exact absurd hx1 hc.2
  · obtain ⟨hrr, hok⟩ := h
    subst hrr
    have hP : va_P D vwCl (wA cI cZ ad (pat) (sent + tn x0) (rep) (kept) (rc) (los) (wai) (sndM rc sent los gon set (tn x0)) (bad) (gon) (bk) (bp) (bv)) H := hP
    have hD : va_D A (wA cI cZ ad (pat) (sent + tn x0) (rep) (kept) (rc) (los) (wai) (sndM rc sent los gon set (tn x0)) (bad) (gon) (bk) (bp) (bv)) := hD
    refine lv_goto (tgt := 72) hx hb dL_does_37 (by decide) ?_
    exact W.iret (v := nI (ccn bk (sndM rc sent los gon set (tn x0)) gon rc)) hx hb hr (fun t ht hW => ⟨⟨_, (wA cI cZ ad (pat) (sent + tn x0) (rep) (kept) (rc) (los) (wai) (sndM rc sent los gon set (tn x0)) (bad) (gon) (bk) (bp) (bv)), rfl, ⟨rfl, trivial, rfl⟩, by rw [ht]; exact hP, hD⟩, hS.F ht⟩) hS.2.2 dL_does_72

set_option maxHeartbeats 4000000 in
set_option maxRecDepth 100000 in
theorem c_L_does3 (l : Launch) (D : va_G) (cI cZ cQ cL : ClassId) (hfl : l.stackTraces = false) (b0 : Nat) (ad : Nat → Nat) (pat : Nat) (sent : Nat) (rep : Nat) (kept : Nat) (rc : Nat) (los : Nat → Nat) (wai : Nat → Nat) (set : Nat → Nat) (bad : Nat → Nat) (gon : Nat → Nat) (bk : Nat) (bp : Nat → B8) (bv : Nat → B8) (x0 : Int32) (x1 : Int32) (sz : Nat) (hrc : rc ≤ 6) (hlos : ∀ r, r < 6 → los r ≤ 2047) (hwai : ∀ r, r < 6 → wai r ≤ 20) (hset : ∀ r, r < 6 → set r < 65536) (hbad : ∀ r, r < 6 → bad r ≤ 20) (hgon : ∀ r, r < 6 → gon r ≤ 1) (hbk : bk ≤ 8) (hpa : pat ≤ 20) (hse : sent ≤ 10000) (hx0 : sent ≤ 9992) : Met l yL_does wsL_does ({ frames := 9, cells := 1, slots := 6, locals := 162 } : Room) (PX b0 D (TY cI cZ cQ cL) (wA cI cZ ad (pat) (sent) (rep) (kept) (rc) (los) (wai) (set) (bad) (gon) (bk) (bp) (bv)) sz [.ref (ad 0), .int (nI (3)), .int (x0), .int (x1)]) (QI D (va_A (wA cI cZ ad (pat) (sent) (rep) (kept) (rc) (los) (wai) (set) (bad) (gon) (bk) (bp) (bv)) sz) (fun (z9 : Int32) (u9 : va_W) => (z9 = nI (rnH (ndf bk set gon) wai rc 21) ∧ (True) ∧ u9 = (wA cI cZ ad (pat) (sent + rnH (ndf bk set gon) wai rc 21) (rep + rnR (ndf bk set gon) wai rc 21) (kept + rnK (ndf bk set gon) wai rc 21) (rc) (los) (wai) (sndM rc sent los gon set (rnH (ndf bk set gon) wai rc 21)) (bdB rc bk (sndM rc sent los gon set (rnH (ndf bk set gon) wai rc 21)) gon bad) (bdG rc bk pat (sndM rc sent los gon set (rnH (ndf bk set gon) wai rc 21)) gon bad) (bk) (bp) (bv)))) (fun u9 => u9)) 1 6 (va_A (wA cI cZ ad (pat) (sent) (rep) (kept) (rc) (los) (wai) (set) (bad) (gon) (bk) (bp) (bv)) sz) := by
  refine q_ofWH (hh := [(0, 72, 73, 46), (0, 72, 78, 48)]) (cc := cL_does) (maxL := 5) (ret := (some .int)) (by decide) rfl ?_
  intro p e s m args below meth c s₁ B hml htab hv
  obtain ⟨rfl, hsz, hP, hK, hD0, hN, hX⟩ := hv
  have hx := B.exec
  have hb := B.bytes
  have hr := B.returns
  have hts := atoms_spec (ws := wsL_does) B.pre
  have hown : s.vm.findClass RL = some m.cls := findClass_of_methodNamed B.named
  have hlocks := B.notSynchronized
  subst hsz
  have hD := hD0.self (sz := s.heap.size)
  generalize hAe : va_A (wA cI cZ ad (pat) (sent) (rep) (kept) (rc) (los) (wai) (set) (bad) (gon) (bk) (bp) (bv)) s.heap.size = A at hD ⊢
  have hA : ∀ q : Nat, s.heap.size ≤ q → A q := fun q h => by rw [← hAe]; exact Or.inr h
  have hS : va_S A s.heap s.heap [] := va_S.rf
  have hl := lv_entry ([.ref (ad 0), .int (nI (3)), .int (x0), .int (x1)]) (n := 5) (Nat.le_of_ble_eq_true rfl)
  rw [lg_entry_eq]
  generalize (lg_sl ([.ref (ad 0), .int (nI (3)), .int (x0), .int (x1)]) ++ List.replicate (5 - (lg_sl ([.ref (ad 0), .int (nI (3)), .int (x0), .int (x1)])).length) Slot.unset).toArray = ls at hl ⊢
  have hl : lv_has ls 5 [(0, .ref (ad 0)), (1, .int (nI (3))), (2, .int (x0)), (3, .int (x1))] := hl
  refine lv_iload_n hx hb dL_does_0 rfl (lv_at hl 1 rfl) ?_
  refine q_if_ne (u := ((3 : Nat) : Int)) (tgt := 13) hx hb dL_does_1 (by decide) (nI_toInt (by omega)) (fun _ => ?_) (fun c_1 => absurd c_1 (by decide))
  refine lv_iload_n hx hb dL_does_13 rfl (lv_at hl 1 rfl) ?_
  refine lv_iconst (v := nI (1)) hx hb dL_does_14 (by decide) ?_
  refine q_icmp_ne (u := ((3 : Nat) : Int)) (v := ((1 : Nat) : Int)) (tgt := 27) hx hb dL_does_15 (by decide) (nI_toInt (by omega)) (nI_toInt (by omega)) (fun _ => ?_) (fun c_15 => absurd c_15 (by decide))
  refine lv_iload_n hx hb dL_does_27 rfl (lv_at hl 1 rfl) ?_
  refine lv_iconst (v := nI (2)) hx hb dL_does_28 (by decide) ?_
  refine q_icmp_ne (u := ((3 : Nat) : Int)) (v := ((2 : Nat) : Int)) (tgt := 40) hx hb dL_does_29 (by decide) (nI_toInt (by omega)) (nI_toInt (by omega)) (fun _ => ?_) (fun c_29 => absurd c_29 (by decide))
  refine lv_iload_n hx hb dL_does_40 rfl (lv_at hl 1 rfl) ?_
  refine lv_iconst (v := nI (3)) hx hb dL_does_41 (by decide) ?_
  refine q_icmp_ne (u := ((3 : Nat) : Int)) (v := ((3 : Nat) : Int)) (tgt := 52) hx hb dL_does_42 (by decide) (nI_toInt (by omega)) (nI_toInt (by omega)) (fun c_42 => absurd c_42 (by decide)) (fun _ => ?_)
  refine lv_aload_n hx hb dL_does_45 rfl (lv_at hl 0 rfl) ?_
  refine q_xci (wc := (wA cI cZ ad (pat) (sent) (rep) (kept) (rc) (los) (wai) (set) (bad) (gon) (bk) (bp) (bv))) (wr := []) (w1 := fun _ => (wA cI cZ ad (pat) (sent + rnH (ndf bk set gon) wai rc 21) (rep + rnR (ndf bk set gon) wai rc 21) (kept + rnK (ndf bk set gon) wai rc 21) (rc) (los) (wai) (sndM rc sent los gon set (rnH (ndf bk set gon) wai rc 21)) (bdB rc bk (sndM rc sent los gon set (rnH (ndf bk set gon) wai rc 21)) gon bad) (bdG rc bk pat (sndM rc sent los gon set (rnH (ndf bk set gon) wai rc 21)) gon bad) (bk) (bp) (bv))) (vx_runV (As := []) (rest := []) ⟨hx, hb, hml, hown, hts⟩ (c_X3_round l D cI cZ cQ cL hfl b0 ad pat sent rep kept rc los wai set bad gon bk bp bv s.heap.size hrc hlos hwai hset hbad hgon hbk hpa hse) (cwV 0 hts gL_does_X3_round rfl rfl rfl ⟨rfl, hd_X3_round⟩ ⟨Nat.le_of_ble_eq_true rfl, Nat.le_of_ble_eq_true rfl⟩) (PX_v (q := (RX3, TX3, 13)) (ci := 2) (q0 := 0) hP hK hD hN hX (fun _ _ _ => rfl) rfl rfl) rfl rfl hl.1 rfl (lv_room (Nat.le_of_ble_eq_true rfl)) dL_does_46 ⟨Nat.le_of_ble_eq_true rfl, Nat.le_of_ble_eq_true rfl⟩) hP hD hS hA [0, 1, 2, 3, 4, 5, 6, 7, 8] [] rfl rfl (by decide) (by decide) (fun E ce q9 H locs hE hP hD hS hce hcv hcl => ?_) (fun r H locs h hP hD hS => ?_)
  · obtain ⟨rfl, hc⟩ := hE
    exact absurd hx0 hc
  · obtain ⟨hrr, hok⟩ := h
    subst hrr
    have hP : va_P D vwCl (wA cI cZ ad (pat) (sent + rnH (ndf bk set gon) wai rc 21) (rep + rnR (ndf bk set gon) wai rc 21) (kept + rnK (ndf bk set gon) wai rc 21) (rc) (los) (wai) (sndM rc sent los gon set (rnH (ndf bk set gon) wai rc 21)) (bdB rc bk (sndM rc sent los gon set (rnH (ndf bk set gon) wai rc 21)) gon bad) (bdG rc bk pat (sndM rc sent los gon set (rnH (ndf bk set gon) wai rc 21)) gon bad) (bk) (bp) (bv)) H := hP
    have hD : va_D A (wA cI cZ ad (pat) (sent + rnH (ndf bk set gon) wai rc 21) (rep + rnR (ndf bk set gon) wai rc 21) (kept + rnK (ndf bk set gon) wai rc 21) (rc) (los) (wai) (sndM rc sent los gon set (rnH (ndf bk set gon) wai rc 21)) (bdB rc bk (sndM rc sent los gon set (rnH (ndf bk set gon) wai rc 21)) gon bad) (bdG rc bk pat (sndM rc sent los gon set (rnH (ndf bk set gon) wai rc 21)) gon bad) (bk) (bp) (bv)) := hD
    refine lv_goto (tgt := 72) hx hb dL_does_49 (by decide) ?_
    exact W.iret (v := nI (rnH (ndf bk set gon) wai rc 21)) hx hb hr (fun t ht hW => ⟨⟨_, (wA cI cZ ad (pat) (sent + rnH (ndf bk set gon) wai rc 21) (rep + rnR (ndf bk set gon) wai rc 21) (kept + rnK (ndf bk set gon) wai rc 21) (rc) (los) (wai) (sndM rc sent los gon set (rnH (ndf bk set gon) wai rc 21)) (bdB rc bk (sndM rc sent los gon set (rnH (ndf bk set gon) wai rc 21)) gon bad) (bdG rc bk pat (sndM rc sent los gon set (rnH (ndf bk set gon) wai rc 21)) gon bad) (bk) (bp) (bv)), rfl, ⟨rfl, trivial, rfl⟩, by rw [ht]; exact hP, hD⟩, hS.F ht⟩) hS.2.2 dL_does_72

set_option maxHeartbeats 4000000 in
set_option maxRecDepth 100000 in
theorem c_L_does4 (l : Launch) (D : va_G) (cI cZ cQ cL : ClassId) (hfl : l.stackTraces = false) (b0 : Nat) (ad : Nat → Nat) (pat : Nat) (sent : Nat) (rep : Nat) (kept : Nat) (rc : Nat) (los : Nat → Nat) (wai : Nat → Nat) (set : Nat → Nat) (bad : Nat → Nat) (gon : Nat → Nat) (bk : Nat) (bp : Nat → B8) (bv : Nat → B8) (ck : Nat) (cp : Nat → B8) (cv : Nat → B8) (ek : Nat) (em : Nat → Nat → B8) (x0 : Int32) (x1 : Int32) (sz : Nat) (hrc : rc ≤ 6) (hset : ∀ r, r < 6 → set r < 65536) (hbk : bk ≤ 8) (hbp : ∀ i, i < bk → bp i = BitVec.ofNat 8 i) : Met l yL_does wsL_does ({ frames := 9, cells := 3, slots := 18, locals := 162 } : Room) (PX b0 D (TY cI cZ cQ cL) (wF cI cZ cQ ad (pat) (sent) (rep) (kept) (rc) (los) (wai) (set) (bad) (gon) (bk) (bp) (bv) (ck) (cp) (cv) (ek) (em)) sz [.ref (ad 0), .int (nI (4)), .int (x0), .int (x1)]) (QI D (va_A (wF cI cZ cQ ad (pat) (sent) (rep) (kept) (rc) (los) (wai) (set) (bad) (gon) (bk) (bp) (bv) (ck) (cp) (cv) (ek) (em)) sz) (fun (z9 : Int32) (u9 : va_W) => (z9 = bI (bv (tn x1)) ∧ ((0 ≤ x0.toInt ∧ x0.toInt < rc) ∧ (0 ≤ x1.toInt ∧ x1.toInt < bk) ∧ bk ≤ pc (set (tn x0))) ∧ u9 = (wF cI cZ cQ ad (pat) (sent) (rep) (kept) (rc) (los) (wai) (set) (bad) (gon) (bk) (bp) (bv) ((chC bk (set (tn x0)) (fun q => q) 16)) ((chP bk (set (tn x0)) (fun q => q) cp 16)) ((chV bk (set (tn x0)) (fun q => q) (lag bk bp bv) cv 16)) (ek) (em))) ∨ (z9 = (-11) ∧ (¬ ((0 ≤ x0.toInt ∧ x0.toInt < rc) ∧ (0 ≤ x1.toInt ∧ x1.toInt < bk))) ∧ u9 = (wF cI cZ cQ ad (pat) (sent) (rep) (kept) (rc) (los) (wai) (set) (bad) (gon) (bk) (bp) (bv) (ck) (cp) (cv) (ek) (em))) ∨ (z9 = (-13) ∧ (((0 ≤ x0.toInt ∧ x0.toInt < rc) ∧ (0 ≤ x1.toInt ∧ x1.toInt < bk)) ∧ ¬ (bk ≤ pc (set (tn x0)))) ∧ u9 = (wF cI cZ cQ ad (pat) (sent) (rep) (kept) (rc) (los) (wai) (set) (bad) (gon) (bk) (bp) (bv) (ck) (cp) (cv) (ek) (em)))) (fun u9 => u9)) 3 18 (va_A (wF cI cZ cQ ad (pat) (sent) (rep) (kept) (rc) (los) (wai) (set) (bad) (gon) (bk) (bp) (bv) (ck) (cp) (cv) (ek) (em)) sz) := by
  refine q_ofWH (hh := [(0, 72, 73, 46), (0, 72, 78, 48)]) (cc := cL_does) (maxL := 5) (ret := (some .int)) (by decide) rfl ?_
  intro p e s m args below meth c s₁ B hml htab hv
  obtain ⟨rfl, hsz, hP, hK, hD0, hN, hX⟩ := hv
  have hx := B.exec
  have hb := B.bytes
  have hr := B.returns
  have hts := atoms_spec (ws := wsL_does) B.pre
  have hown : s.vm.findClass RL = some m.cls := findClass_of_methodNamed B.named
  have hlocks := B.notSynchronized
  subst hsz
  have hD := hD0.self (sz := s.heap.size)
  generalize hAe : va_A (wF cI cZ cQ ad (pat) (sent) (rep) (kept) (rc) (los) (wai) (set) (bad) (gon) (bk) (bp) (bv) (ck) (cp) (cv) (ek) (em)) s.heap.size = A at hD ⊢
  have hA : ∀ q : Nat, s.heap.size ≤ q → A q := fun q h => by rw [← hAe]; exact Or.inr h
  have hS : va_S A s.heap s.heap [] := va_S.rf
  have hl := lv_entry ([.ref (ad 0), .int (nI (4)), .int (x0), .int (x1)]) (n := 5) (Nat.le_of_ble_eq_true rfl)
  rw [lg_entry_eq]
  generalize (lg_sl ([.ref (ad 0), .int (nI (4)), .int (x0), .int (x1)]) ++ List.replicate (5 - (lg_sl ([.ref (ad 0), .int (nI (4)), .int (x0), .int (x1)])).length) Slot.unset).toArray = ls at hl ⊢
  have hl : lv_has ls 5 [(0, .ref (ad 0)), (1, .int (nI (4))), (2, .int (x0)), (3, .int (x1))] := hl
  refine lv_iload_n hx hb dL_does_0 rfl (lv_at hl 1 rfl) ?_
  refine q_if_ne (u := ((4 : Nat) : Int)) (tgt := 13) hx hb dL_does_1 (by decide) (nI_toInt (by omega)) (fun _ => ?_) (fun c_1 => absurd c_1 (by decide))
  refine lv_iload_n hx hb dL_does_13 rfl (lv_at hl 1 rfl) ?_
  refine lv_iconst (v := nI (1)) hx hb dL_does_14 (by decide) ?_
  refine q_icmp_ne (u := ((4 : Nat) : Int)) (v := ((1 : Nat) : Int)) (tgt := 27) hx hb dL_does_15 (by decide) (nI_toInt (by omega)) (nI_toInt (by omega)) (fun _ => ?_) (fun c_15 => absurd c_15 (by decide))
  refine lv_iload_n hx hb dL_does_27 rfl (lv_at hl 1 rfl) ?_
  refine lv_iconst (v := nI (2)) hx hb dL_does_28 (by decide) ?_
  refine q_icmp_ne (u := ((4 : Nat) : Int)) (v := ((2 : Nat) : Int)) (tgt := 40) hx hb dL_does_29 (by decide) (nI_toInt (by omega)) (nI_toInt (by omega)) (fun _ => ?_) (fun c_29 => absurd c_29 (by decide))
  refine lv_iload_n hx hb dL_does_40 rfl (lv_at hl 1 rfl) ?_
  refine lv_iconst (v := nI (3)) hx hb dL_does_41 (by decide) ?_
  refine q_icmp_ne (u := ((4 : Nat) : Int)) (v := ((3 : Nat) : Int)) (tgt := 52) hx hb dL_does_42 (by decide) (nI_toInt (by omega)) (nI_toInt (by omega)) (fun _ => ?_) (fun c_42 => absurd c_42 (by decide))
  refine lv_iload_n hx hb dL_does_52 rfl (lv_at hl 1 rfl) ?_
  refine lv_iconst (v := nI (4)) hx hb dL_does_53 (by decide) ?_
  refine q_icmp_ne (u := ((4 : Nat) : Int)) (v := ((4 : Nat) : Int)) (tgt := 66) hx hb dL_does_54 (by decide) (nI_toInt (by omega)) (nI_toInt (by omega)) (fun c_54 => absurd c_54 (by decide)) (fun _ => ?_)
  refine lv_aload_n hx hb dL_does_57 rfl (lv_at hl 0 rfl) ?_
  refine lv_iload_n hx hb dL_does_58 rfl (lv_at hl 2 rfl) ?_
  refine lv_iload_n hx hb dL_does_59 rfl (lv_at hl 3 rfl) ?_
  refine q_xci (wc := (wF cI cZ cQ ad (pat) (sent) (rep) (kept) (rc) (los) (wai) (set) (bad) (gon) (bk) (bp) (bv) (ck) (cp) (cv) (ek) (em))) (wr := []) (w1 := fun _ => (wF cI cZ cQ ad (pat) (sent) (rep) (kept) (rc) (los) (wai) (set) (bad) (gon) (bk) (bp) (bv) ((chC bk (set (tn x0)) (fun q => q) 16)) ((chP bk (set (tn x0)) (fun q => q) cp 16)) ((chV bk (set (tn x0)) (fun q => q) (lag bk bp bv) cv 16)) (ek) (em))) (vx_runV (As := [.int (x0), .int (x1)]) (rest := []) ⟨hx, hb, hml, hown, hts⟩ (c_X3_rebuilt l D cI cZ cQ cL hfl b0 ad pat sent rep kept rc los wai set bad gon bk bp bv ck cp cv ek em (x0) (x1) s.heap.size hrc hset hbk hbp) (cwV 2 hts gL_does_X3_rebuilt rfl rfl rfl ⟨rfl, hd_X3_rebuilt⟩ ⟨Nat.le_of_ble_eq_true rfl, Nat.le_of_ble_eq_true rfl⟩) (PX_v (q := (RX3, TX3, 13)) (ci := 2) (q0 := 0) hP hK hD hN hX (fun _ _ _ => rfl) rfl rfl) rfl rfl hl.1 rfl (lv_room (Nat.le_of_ble_eq_true rfl)) dL_does_60 ⟨Nat.le_of_ble_eq_true rfl, Nat.le_of_ble_eq_true rfl⟩) hP hD hS hA [0, 1, 2, 3, 4, 5, 6, 7, 8, 9, 10, 11, 12, 13, 14, 15, 16, 17, 18, 19, 20, 21] [] rfl rfl (by decide) (by decide) (fun E ce q9 H locs hE hP hD hS hce hcv hcl => ?_) (fun r H locs h hP hD hS => ?_)
  · rcases hE with ⟨rfl, hc⟩ | ⟨rfl, hc⟩
    · refine vx_catch (own := RL) (name := "java/lang/IndexOutOfBoundsException") hown [] ⟨0, 72, 73, 46⟩ [⟨0, 72, 78, 48⟩] (by rw [htab]; rfl) (fun z hz => by cases hz) rfl (by decide) (hts (.classLink RL 46 "java/lang/IndexOutOfBoundsException") (List.mem_of_getElem? (i := 1) rfl)) (hX_cs hX (by decide)) hce hcv hcl ?_
      refine lv_astore (lv' := [(4, .ref (q9)), (0, .ref (ad 0)), (1, .int (nI (4))), (2, .int (x0)), (3, .int (x1))]) hx hb dL_does_73 hl (by decide) rfl (fun ls hl => ?_)
      refine lv_bipush (v := (-11)) hx hb dL_does_75 (by decide) ?_
      exact W.iret (v := (-11)) hx hb hr (fun t ht hW => ⟨⟨_, (wF cI cZ cQ ad (pat) (sent) (rep) (kept) (rc) (los) (wai) (set) (bad) (gon) (bk) (bp) (bv) (ck) (cp) (cv) (ek) (em)), rfl, Or.inr (Or.inl ⟨rfl, hc, rfl⟩), by rw [ht]; exact hP, hD⟩, hS.F ht⟩) hS.2.2 dL_does_77
    · refine vx_catch (own := RL) (name := "java/lang/IllegalStateException") hown [⟨0, 72, 73, 46⟩] ⟨0, 72, 78, 48⟩ [] (by rw [htab]; rfl) (fun z hz => by obtain rfl := List.mem_singleton.mp hz; exact Or.inr ⟨by decide, "java/lang/IndexOutOfBoundsException", (hts (.classLink RL 46 "java/lang/IndexOutOfBoundsException") (List.mem_of_getElem? (i := 1) rfl)), hX_nc hX (by decide)⟩) rfl (by decide) (hts (.classLink RL 48 "java/lang/IllegalStateException") (List.mem_of_getElem? (i := 2) rfl)) (hX_cs hX (by decide)) hce hcv hcl ?_
      refine lv_astore (lv' := [(4, .ref (q9)), (0, .ref (ad 0)), (1, .int (nI (4))), (2, .int (x0)), (3, .int (x1))]) hx hb dL_does_78 hl (by decide) rfl (fun ls hl => ?_)
      refine lv_bipush (v := (-13)) hx hb dL_does_80 (by decide) ?_
      exact W.iret (v := (-13)) hx hb hr (fun t ht hW => ⟨⟨_, (wF cI cZ cQ ad (pat) (sent) (rep) (kept) (rc) (los) (wai) (set) (bad) (gon) (bk) (bp) (bv) (ck) (cp) (cv) (ek) (em)), rfl, Or.inr (Or.inr (⟨rfl, hc, rfl⟩)), by rw [ht]; exact hP, hD⟩, hS.F ht⟩) hS.2.2 dL_does_82
  · obtain ⟨hrr, hok⟩ := h
    subst hrr
    have hP : va_P D vwCl (wF cI cZ cQ ad (pat) (sent) (rep) (kept) (rc) (los) (wai) (set) (bad) (gon) (bk) (bp) (bv) ((chC bk (set (tn x0)) (fun q => q) 16)) ((chP bk (set (tn x0)) (fun q => q) cp 16)) ((chV bk (set (tn x0)) (fun q => q) (lag bk bp bv) cv 16)) (ek) (em)) H := hP
    have hD : va_D A (wF cI cZ cQ ad (pat) (sent) (rep) (kept) (rc) (los) (wai) (set) (bad) (gon) (bk) (bp) (bv) ((chC bk (set (tn x0)) (fun q => q) 16)) ((chP bk (set (tn x0)) (fun q => q) cp 16)) ((chV bk (set (tn x0)) (fun q => q) (lag bk bp bv) cv 16)) (ek) (em)) := hD
    refine lv_goto (tgt := 72) hx hb dL_does_63 (by decide) ?_
    exact W.iret (v := bI (bv (tn x1))) hx hb hr (fun t ht hW => ⟨⟨_, (wF cI cZ cQ ad (pat) (sent) (rep) (kept) (rc) (los) (wai) (set) (bad) (gon) (bk) (bp) (bv) ((chC bk (set (tn x0)) (fun q => q) 16)) ((chP bk (set (tn x0)) (fun q => q) cp 16)) ((chV bk (set (tn x0)) (fun q => q) (lag bk bp bv) cv 16)) (ek) (em)), rfl, Or.inl ⟨rfl, hok, rfl⟩, by rw [ht]; exact hP, hD⟩, hS.F ht⟩) hS.2.2 dL_does_72

set_option maxHeartbeats 4000000 in
set_option maxRecDepth 100000 in
theorem c_L_does5 (l : Launch) (D : va_G) (cI cZ cQ cL : ClassId) (hfl : l.stackTraces = false) (b0 : Nat) (ad : Nat → Nat) (pat : Nat) (sent : Nat) (rep : Nat) (kept : Nat) (rc : Nat) (los : Nat → Nat) (wai : Nat → Nat) (set : Nat → Nat) (bad : Nat → Nat) (gon : Nat → Nat) (bk : Nat) (bp : Nat → B8) (bv : Nat → B8) (ck : Nat) (cp : Nat → B8) (cv : Nat → B8) (ek : Nat) (em : Nat → Nat → B8) (x0 : Int32) (x1 : Int32) (sz : Nat) (hrc : rc ≤ 6) (hset : ∀ r, r < 6 → set r < 65536) (hbk : bk ≤ 8) (hbp : ∀ i, i < bk → bp i = BitVec.ofNat 8 i) : Met l yL_does wsL_does ({ frames := 9, cells := 3, slots := 18, locals := 162 } : Room) (PX b0 D (TY cI cZ cQ cL) (wF cI cZ cQ ad (pat) (sent) (rep) (kept) (rc) (los) (wai) (set) (bad) (gon) (bk) (bp) (bv) (ck) (cp) (cv) (ek) (em)) sz [.ref (ad 0), .int (nI (5)), .int (x0), .int (x1)]) (QI D (va_A (wF cI cZ cQ ad (pat) (sent) (rep) (kept) (rc) (los) (wai) (set) (bad) (gon) (bk) (bp) (bv) (ck) (cp) (cv) (ek) (em)) sz) (fun (z9 : Int32) (u9 : va_W) => (z9 = bI (bv (tn x1)) ∧ ((0 ≤ x0.toInt ∧ x0.toInt < rc) ∧ (0 ≤ x1.toInt ∧ x1.toInt < bk) ∧ bk ≤ pc (set (tn x0))) ∧ u9 = (wF cI cZ cQ ad (pat) (sent) (rep) (kept) (rc) (los) (wai) (set) (bad) (gon) (bk) (bp) (bv) ((chC bk (set (tn x0)) (fun q => 15 - q) 16)) ((chP bk (set (tn x0)) (fun q => 15 - q) cp 16)) ((chV bk (set (tn x0)) (fun q => 15 - q) (lag bk bp bv) cv 16)) ((chC bk (set (tn x0)) (fun q => 15 - q) 16)) (elN (chC bk (set (tn x0)) (fun q => 15 - q) 16) (wrR (chC bk (set (tn x0)) (fun q => 15 - q) 16) (chP bk (set (tn x0)) (fun q => 15 - q) cp 16) (chV bk (set (tn x0)) (fun q => 15 - q) (lag bk bp bv) cv 16) em (chC bk (set (tn x0)) (fun q => 15 - q) 16)) (chC bk (set (tn x0)) (fun q => 15 - q) 16)))) ∨ (z9 = (-11) ∧ (¬ ((0 ≤ x0.toInt ∧ x0.toInt < rc) ∧ (0 ≤ x1.toInt ∧ x1.toInt < bk))) ∧ u9 = (wF cI cZ cQ ad (pat) (sent) (rep) (kept) (rc) (los) (wai) (set) (bad) (gon) (bk) (bp) (bv) (ck) (cp) (cv) (ek) (em))) ∨ (z9 = (-13) ∧ (((0 ≤ x0.toInt ∧ x0.toInt < rc) ∧ (0 ≤ x1.toInt ∧ x1.toInt < bk)) ∧ ¬ (bk ≤ pc (set (tn x0)))) ∧ u9 = (wF cI cZ cQ ad (pat) (sent) (rep) (kept) (rc) (los) (wai) (set) (bad) (gon) (bk) (bp) (bv) (ck) (cp) (cv) (ek) (em)))) (fun u9 => u9)) 3 18 (va_A (wF cI cZ cQ ad (pat) (sent) (rep) (kept) (rc) (los) (wai) (set) (bad) (gon) (bk) (bp) (bv) (ck) (cp) (cv) (ek) (em)) sz) := by
  refine q_ofWH (hh := [(0, 72, 73, 46), (0, 72, 78, 48)]) (cc := cL_does) (maxL := 5) (ret := (some .int)) (by decide) rfl ?_
  intro p e s m args below meth c s₁ B hml htab hv
  obtain ⟨rfl, hsz, hP, hK, hD0, hN, hX⟩ := hv
  have hx := B.exec
  have hb := B.bytes
  have hr := B.returns
  have hts := atoms_spec (ws := wsL_does) B.pre
  have hown : s.vm.findClass RL = some m.cls := findClass_of_methodNamed B.named
  have hlocks := B.notSynchronized
  subst hsz
  have hD := hD0.self (sz := s.heap.size)
  generalize hAe : va_A (wF cI cZ cQ ad (pat) (sent) (rep) (kept) (rc) (los) (wai) (set) (bad) (gon) (bk) (bp) (bv) (ck) (cp) (cv) (ek) (em)) s.heap.size = A at hD ⊢
  have hA : ∀ q : Nat, s.heap.size ≤ q → A q := fun q h => by rw [← hAe]; exact Or.inr h
  have hS : va_S A s.heap s.heap [] := va_S.rf
  have hl := lv_entry ([.ref (ad 0), .int (nI (5)), .int (x0), .int (x1)]) (n := 5) (Nat.le_of_ble_eq_true rfl)
  rw [lg_entry_eq]
  generalize (lg_sl ([.ref (ad 0), .int (nI (5)), .int (x0), .int (x1)]) ++ List.replicate (5 - (lg_sl ([.ref (ad 0), .int (nI (5)), .int (x0), .int (x1)])).length) Slot.unset).toArray = ls at hl ⊢
  have hl : lv_has ls 5 [(0, .ref (ad 0)), (1, .int (nI (5))), (2, .int (x0)), (3, .int (x1))] := hl
  refine lv_iload_n hx hb dL_does_0 rfl (lv_at hl 1 rfl) ?_
  refine q_if_ne (u := ((5 : Nat) : Int)) (tgt := 13) hx hb dL_does_1 (by decide) (nI_toInt (by omega)) (fun _ => ?_) (fun c_1 => absurd c_1 (by decide))
  refine lv_iload_n hx hb dL_does_13 rfl (lv_at hl 1 rfl) ?_
  refine lv_iconst (v := nI (1)) hx hb dL_does_14 (by decide) ?_
  refine q_icmp_ne (u := ((5 : Nat) : Int)) (v := ((1 : Nat) : Int)) (tgt := 27) hx hb dL_does_15 (by decide) (nI_toInt (by omega)) (nI_toInt (by omega)) (fun _ => ?_) (fun c_15 => absurd c_15 (by decide))
  refine lv_iload_n hx hb dL_does_27 rfl (lv_at hl 1 rfl) ?_
  refine lv_iconst (v := nI (2)) hx hb dL_does_28 (by decide) ?_
  refine q_icmp_ne (u := ((5 : Nat) : Int)) (v := ((2 : Nat) : Int)) (tgt := 40) hx hb dL_does_29 (by decide) (nI_toInt (by omega)) (nI_toInt (by omega)) (fun _ => ?_) (fun c_29 => absurd c_29 (by decide))
  refine lv_iload_n hx hb dL_does_40 rfl (lv_at hl 1 rfl) ?_
  refine lv_iconst (v := nI (3)) hx hb dL_does_41 (by decide) ?_
  refine q_icmp_ne (u := ((5 : Nat) : Int)) (v := ((3 : Nat) : Int)) (tgt := 52) hx hb dL_does_42 (by decide) (nI_toInt (by omega)) (nI_toInt (by omega)) (fun _ => ?_) (fun c_42 => absurd c_42 (by decide))
  refine lv_iload_n hx hb dL_does_52 rfl (lv_at hl 1 rfl) ?_
  refine lv_iconst (v := nI (4)) hx hb dL_does_53 (by decide) ?_
  refine q_icmp_ne (u := ((5 : Nat) : Int)) (v := ((4 : Nat) : Int)) (tgt := 66) hx hb dL_does_54 (by decide) (nI_toInt (by omega)) (nI_toInt (by omega)) (fun _ => ?_) (fun c_54 => absurd c_54 (by decide))
  refine lv_aload_n hx hb dL_does_66 rfl (lv_at hl 0 rfl) ?_
  refine lv_iload_n hx hb dL_does_67 rfl (lv_at hl 2 rfl) ?_
  refine lv_iload_n hx hb dL_does_68 rfl (lv_at hl 3 rfl) ?_
  refine q_xci (wc := (wF cI cZ cQ ad (pat) (sent) (rep) (kept) (rc) (los) (wai) (set) (bad) (gon) (bk) (bp) (bv) (ck) (cp) (cv) (ek) (em))) (wr := []) (w1 := fun _ => (wF cI cZ cQ ad (pat) (sent) (rep) (kept) (rc) (los) (wai) (set) (bad) (gon) (bk) (bp) (bv) ((chC bk (set (tn x0)) (fun q => 15 - q) 16)) ((chP bk (set (tn x0)) (fun q => 15 - q) cp 16)) ((chV bk (set (tn x0)) (fun q => 15 - q) (lag bk bp bv) cv 16)) ((chC bk (set (tn x0)) (fun q => 15 - q) 16)) (elN (chC bk (set (tn x0)) (fun q => 15 - q) 16) (wrR (chC bk (set (tn x0)) (fun q => 15 - q) 16) (chP bk (set (tn x0)) (fun q => 15 - q) cp 16) (chV bk (set (tn x0)) (fun q => 15 - q) (lag bk bp bv) cv 16) em (chC bk (set (tn x0)) (fun q => 15 - q) 16)) (chC bk (set (tn x0)) (fun q => 15 - q) 16)))) (vx_runV (As := [.int (x0), .int (x1)]) (rest := []) ⟨hx, hb, hml, hown, hts⟩ (c_X3_rebuiltByElimination l D cI cZ cQ cL hfl b0 ad pat sent rep kept rc los wai set bad gon bk bp bv ck cp cv ek em (x0) (x1) s.heap.size hrc hset hbk hbp) (cwV 2 hts gL_does_X3_rebuiltByElimination rfl rfl rfl ⟨rfl, hd_X3_rebuiltByElimination⟩ ⟨Nat.le_of_ble_eq_true rfl, Nat.le_of_ble_eq_true rfl⟩) (PX_v (q := (RX3, TX3, 13)) (ci := 2) (q0 := 0) hP hK hD hN hX (fun _ _ _ => rfl) rfl rfl) rfl rfl hl.1 rfl (lv_room (Nat.le_of_ble_eq_true rfl)) dL_does_69 ⟨Nat.le_of_ble_eq_true rfl, Nat.le_of_ble_eq_true rfl⟩) hP hD hS hA [0, 1, 2, 3, 4, 5, 6, 7, 8, 9, 10, 11, 12, 13, 14, 15, 16, 17, 18, 19, 20, 21] [] rfl rfl (by decide) (by decide) (fun E ce q9 H locs hE hP hD hS hce hcv hcl => ?_) (fun r H locs h hP hD hS => ?_)
  · rcases hE with ⟨rfl, hc⟩ | ⟨rfl, hc⟩
    · refine vx_catch (own := RL) (name := "java/lang/IndexOutOfBoundsException") hown [] ⟨0, 72, 73, 46⟩ [⟨0, 72, 78, 48⟩] (by rw [htab]; rfl) (fun z hz => by cases hz) rfl (by decide) (hts (.classLink RL 46 "java/lang/IndexOutOfBoundsException") (List.mem_of_getElem? (i := 1) rfl)) (hX_cs hX (by decide)) hce hcv hcl ?_
      refine lv_astore (lv' := [(4, .ref (q9)), (0, .ref (ad 0)), (1, .int (nI (5))), (2, .int (x0)), (3, .int (x1))]) hx hb dL_does_73 hl (by decide) rfl (fun ls hl => ?_)
      refine lv_bipush (v := (-11)) hx hb dL_does_75 (by decide) ?_
      exact W.iret (v := (-11)) hx hb hr (fun t ht hW => ⟨⟨_, (wF cI cZ cQ ad (pat) (sent) (rep) (kept) (rc) (los) (wai) (set) (bad) (gon) (bk) (bp) (bv) (ck) (cp) (cv) (ek) (em)), rfl, Or.inr (Or.inl ⟨rfl, hc, rfl⟩), by rw [ht]; exact hP, hD⟩, hS.F ht⟩) hS.2.2 dL_does_77
    · refine vx_catch (own := RL) (name := "java/lang/IllegalStateException") hown [⟨0, 72, 73, 46⟩] ⟨0, 72, 78, 48⟩ [] (by rw [htab]; rfl) (fun z hz => by obtain rfl := List.mem_singleton.mp hz; exact Or.inr ⟨by decide, "java/lang/IndexOutOfBoundsException", (hts (.classLink RL 46 "java/lang/IndexOutOfBoundsException") (List.mem_of_getElem? (i := 1) rfl)), hX_nc hX (by decide)⟩) rfl (by decide) (hts (.classLink RL 48 "java/lang/IllegalStateException") (List.mem_of_getElem? (i := 2) rfl)) (hX_cs hX (by decide)) hce hcv hcl ?_
      refine lv_astore (lv' := [(4, .ref (q9)), (0, .ref (ad 0)), (1, .int (nI (5))), (2, .int (x0)), (3, .int (x1))]) hx hb dL_does_78 hl (by decide) rfl (fun ls hl => ?_)
      refine lv_bipush (v := (-13)) hx hb dL_does_80 (by decide) ?_
      exact W.iret (v := (-13)) hx hb hr (fun t ht hW => ⟨⟨_, (wF cI cZ cQ ad (pat) (sent) (rep) (kept) (rc) (los) (wai) (set) (bad) (gon) (bk) (bp) (bv) (ck) (cp) (cv) (ek) (em)), rfl, Or.inr (Or.inr (⟨rfl, hc, rfl⟩)), by rw [ht]; exact hP, hD⟩, hS.F ht⟩) hS.2.2 dL_does_82
  · obtain ⟨hrr, hok⟩ := h
    subst hrr
    have hP : va_P D vwCl (wF cI cZ cQ ad (pat) (sent) (rep) (kept) (rc) (los) (wai) (set) (bad) (gon) (bk) (bp) (bv) ((chC bk (set (tn x0)) (fun q => 15 - q) 16)) ((chP bk (set (tn x0)) (fun q => 15 - q) cp 16)) ((chV bk (set (tn x0)) (fun q => 15 - q) (lag bk bp bv) cv 16)) ((chC bk (set (tn x0)) (fun q => 15 - q) 16)) (elN (chC bk (set (tn x0)) (fun q => 15 - q) 16) (wrR (chC bk (set (tn x0)) (fun q => 15 - q) 16) (chP bk (set (tn x0)) (fun q => 15 - q) cp 16) (chV bk (set (tn x0)) (fun q => 15 - q) (lag bk bp bv) cv 16) em (chC bk (set (tn x0)) (fun q => 15 - q) 16)) (chC bk (set (tn x0)) (fun q => 15 - q) 16))) H := hP
    have hD : va_D A (wF cI cZ cQ ad (pat) (sent) (rep) (kept) (rc) (los) (wai) (set) (bad) (gon) (bk) (bp) (bv) ((chC bk (set (tn x0)) (fun q => 15 - q) 16)) ((chP bk (set (tn x0)) (fun q => 15 - q) cp 16)) ((chV bk (set (tn x0)) (fun q => 15 - q) (lag bk bp bv) cv 16)) ((chC bk (set (tn x0)) (fun q => 15 - q) 16)) (elN (chC bk (set (tn x0)) (fun q => 15 - q) 16) (wrR (chC bk (set (tn x0)) (fun q => 15 - q) 16) (chP bk (set (tn x0)) (fun q => 15 - q) cp 16) (chV bk (set (tn x0)) (fun q => 15 - q) (lag bk bp bv) cv 16) em (chC bk (set (tn x0)) (fun q => 15 - q) 16)) (chC bk (set (tn x0)) (fun q => 15 - q) 16))) := hD
    exact W.iret (v := bI (bv (tn x1))) hx hb hr (fun t ht hW => ⟨⟨_, (wF cI cZ cQ ad (pat) (sent) (rep) (kept) (rc) (los) (wai) (set) (bad) (gon) (bk) (bp) (bv) ((chC bk (set (tn x0)) (fun q => 15 - q) 16)) ((chP bk (set (tn x0)) (fun q => 15 - q) cp 16)) ((chV bk (set (tn x0)) (fun q => 15 - q) (lag bk bp bv) cv 16)) ((chC bk (set (tn x0)) (fun q => 15 - q) 16)) (elN (chC bk (set (tn x0)) (fun q => 15 - q) 16) (wrR (chC bk (set (tn x0)) (fun q => 15 - q) 16) (chP bk (set (tn x0)) (fun q => 15 - q) cp 16) (chV bk (set (tn x0)) (fun q => 15 - q) (lag bk bp bv) cv 16) em (chC bk (set (tn x0)) (fun q => 15 - q) 16)) (chC bk (set (tn x0)) (fun q => 15 - q) 16))), rfl, Or.inl ⟨rfl, hok, rfl⟩, by rw [ht]; exact hP, hD⟩, hS.F ht⟩) hS.2.2 dL_does_72
