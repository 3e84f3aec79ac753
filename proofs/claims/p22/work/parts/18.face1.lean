def tn (x : Int32) : Nat := x.toNatClampNeg
theorem tn_i {x : Int32} (h : 0 ≤ x.toInt) : ((tn x : Nat) : Int) = x.toInt := by
  show ((x.toInt.toNat : Nat) : Int) = x.toInt
  omega
theorem tn_I {x : Int32} (h : 0 ≤ x.toInt) : x = nI (tn x) := by
  have h1 := tn_i h
  have h2 : x.toInt < 2 ^ 31 := Int32.toInt_lt x
  rw [q_eqI, nI_toInt (by omega)]
  exact h1.symm
theorem tn_B {x : Int32} (h : 0 ≤ x.toInt) (h2 : x.toInt ≤ 255) : x = bI (BitVec.ofNat 8 (tn x)) := by
  have h1 := tn_i h
  rw [← bI_of (by omega)]
  exact tn_I h
theorem tn_nI {n : Nat} (h : n < 2 ^ 31) : tn (nI n) = n := nI_clamp h
theorem reb_pre {k s : Nat} {bp bv : Nat → B8} {num : Nat → Nat} (hk : k ≤ 8) (hbp : ∀ i, i < k → bp i = BitVec.ofNat 8 i) (hs : k ≤ chN s num 16) (hn : ∀ i j, i < 16 → j < 16 → num i = num j → i = j) (hl : ∀ i, i < 16 → num i < 256) (cp cv : Nat → B8) :
    chC k s num 16 = k ∧ (∀ a b, a < k → b < k → chP k s num cp 16 a = chP k s num cp 16 b → a = b) ∧ (∀ i, i < k → chV k s num (lag k bp bv) cv 16 i = lag k (fun j => BitVec.ofNat 8 j) bv (chP k s num cp 16 i)) := by
  have e : chC k s num 16 = k := by rw [chC_min]; omega
  refine ⟨e, fun a b ha hb => ch_apart hn hl cp a b (by omega) (by omega), fun i hi => ?_⟩
  rw [ch_val (lag k bp bv) cp cv i (by omega)]
  exact lag_congr hbp (fun _ _ => rfl) _
theorem reb_lo {k s x : Nat} {bp bv cp cv : Nat → B8} (hk : k ≤ 8) (hbp : ∀ i, i < k → bp i = BitVec.ofNat 8 i) (hs : k ≤ pc s) (hx : x < k) : lag (chC k s (fun q => q) 16) (chP k s (fun q => q) cp 16) (chV k s (fun q => q) (lag k bp bv) cv 16) (BitVec.ofNat 8 x) = bv x := by
  obtain ⟨e, h1, h2⟩ := reb_pre (s := s) (bv := bv) (num := fun q => q) hk hbp (by rw [chN_up]; exact hs) (fun i j _ _ h => h) (fun i h => by omega) cp cv
  rw [e]
  exact lag_back hk h1 h2 hx
theorem reb_hi {k s x : Nat} {bp bv cp cv : Nat → B8} {em : Nat → Nat → B8} (hk : k ≤ 8) (hbp : ∀ i, i < k → bp i = BitVec.ofNat 8 i) (hs : k ≤ pc s) (hx : x < k) :
    hor (chC k s (fun q => 15 - q) 16) (fun q => elN (chC k s (fun q => 15 - q) 16) (wrR (chC k s (fun q => 15 - q) 16) (chP k s (fun q => 15 - q) cp 16) (chV k s (fun q => 15 - q) (lag k bp bv) cv 16) em (chC k s (fun q => 15 - q) 16)) (chC k s (fun q => 15 - q) 16) q (chC k s (fun q => 15 - q) 16)) (BitVec.ofNat 8 x) (chC k s (fun q => 15 - q) 16) = bv x := by
  obtain ⟨e, h1, h2⟩ := reb_pre (s := s) (bv := bv) (num := fun q => 15 - q) hk hbp (by rw [chN_dn]; exact hs) (fun i j _ _ h => by have h9 : 15 - i = 15 - j := h; omega) (fun i h => by show 15 - i < 256; omega) cp cv
  rw [e]
  refine el_back hk h1 h2 (fun r j hr hj => ?_) (fun r hr => ?_) hx
  · unfold wrR
    rw [if_pos hr, if_pos hj]
  · unfold wrR
    rw [if_pos hr, if_neg (Nat.lt_irrefl k), if_pos rfl]
theorem htX3_begin_51 : ∀ w ∈ (vx_atS RX3 51 "java/lang/IllegalArgumentException" ["java/lang/RuntimeException", "java/lang/Exception"]).filter goodWord, w ∈ wsX3_begin := by decide +kernel
theorem iwX3_begin_X3 : ∀ w ∈ wsX30, w ∈ wsX3_begin := by decide +kernel
set_option maxHeartbeats 4000000 in
set_option maxRecDepth 100000 in
theorem c_X3_begin (l : Launch) (D : va_G) (cI cZ cQ cL : ClassId) (hfl : l.stackTraces = false) (b0 : Nat) (ad : Nat → Nat) (pat : Nat) (sent : Nat) (rep : Nat) (kept : Nat) (rc : Nat) (los : Nat → Nat) (wai : Nat → Nat) (set : Nat → Nat) (bad : Nat → Nat) (gon : Nat → Nat) (bk : Nat) (bp : Nat → B8) (bv : Nat → B8) (x0 : Int32) (x1 : Int32) (sz : Nat) : vx_Met l yX3_begin wsX3_begin ({ frames := 6, cells := 1, slots := 6, locals := 96 } : Room) (PX b0 D (TY cI cZ cQ cL) (wA cI cZ ad (pat) (sent) (rep) (kept) (rc) (los) (wai) (set) (bad) (gon) (bk) (bp) (bv)) sz [.ref (ad 0), .int (x0), .int (x1)]) (QI D (va_A (wA cI cZ ad (pat) (sent) (rep) (kept) (rc) (los) (wai) (set) (bad) (gon) (bk) (bp) (bv)) sz) (fun z9 (_ : Unit) => z9 = nI (sent) ∧ ((1 ≤ x0.toInt ∧ x0.toInt ≤ 8) ∧ (1 ≤ x1.toInt ∧ x1.toInt ≤ 20))) (fun _ => (wA cI cZ ad (tn x1) (0) (0) (0) (0) (los) (wai) (set) (bad) (gon) (tn x0) (idp (tn x0) bp) (zrv (tn x0) bv)))) (XC (fun E => E = "java/lang/IllegalArgumentException" ∧ ¬ ((1 ≤ x0.toInt ∧ x0.toInt ≤ 8) ∧ (1 ≤ x1.toInt ∧ x1.toInt ≤ 20)))) 1 6 (va_A (wA cI cZ ad (pat) (sent) (rep) (kept) (rc) (los) (wai) (set) (bad) (gon) (bk) (bp) (bv)) sz) := by
  refine vx_ofW (cc := cX3_begin) (maxL := 4) (ret := (some .int)) (by decide) rfl ?_
  intro p e s m args below meth c s₁ B hml htab hv
  obtain ⟨rfl, hsz, hP, hK, hD0, hN, hX⟩ := hv
  have hx := B.exec
  have hb := B.bytes
  have hr := B.returns
  have hts := atoms_spec (ws := wsX3_begin) B.pre
  have hown : s.vm.findClass RX3 = some m.cls := findClass_of_methodNamed B.named
  have hlocks := B.notSynchronized
  subst hsz
  have hD := hD0.self (sz := s.heap.size)
  generalize hAe : va_A (wA cI cZ ad (pat) (sent) (rep) (kept) (rc) (los) (wai) (set) (bad) (gon) (bk) (bp) (bv)) s.heap.size = A at hD ⊢
  have hA : ∀ q : Nat, s.heap.size ≤ q → A q := fun q h => by rw [← hAe]; exact Or.inr h
  have hS : va_S A s.heap s.heap [] := va_S.rf
  have hl := lv_entry ([.ref (ad 0), .int (x0), .int (x1)]) (n := 4) (Nat.le_of_ble_eq_true rfl)
  rw [lg_entry_eq]
  generalize (lg_sl ([.ref (ad 0), .int (x0), .int (x1)]) ++ List.replicate (4 - (lg_sl ([.ref (ad 0), .int (x0), .int (x1)])).length) Slot.unset).toArray = ls at hl ⊢
  have hl : lv_has ls 4 [(0, .ref (ad 0)), (1, .int (x0)), (2, .int (x1))] := hl
  refine lv_iload_n hx hb dX3_begin_0 rfl (lv_at hl 1 rfl) ?_
  refine lv_iconst (v := nI (1)) hx hb dX3_begin_1 (by decide) ?_
  refine q_icmp_lt (u := (x0).toInt) (v := ((1 : Nat) : Int)) (tgt := 11) hx hb dX3_begin_2 (by decide) (rfl) (nI_toInt (by omega)) (fun c_2 => ?_) (fun c_2 => ?_)
  · skip
    exact q_throw (b0 := b0) (text := "k is not 1 to 8") (Ts := wsX3_begin) hx hb hfl hown (by decide +kernel) hts (List.mem_of_getElem? (i := 1) rfl) (List.mem_of_getElem? (i := 2) rfl) hX (List.mem_of_getElem? (i := 8) rfl) htX3_begin_51 vx_bad_51 vx_good_51 (hl.1.trans hml.symm) dX3_begin_11 dX3_begin_14 dX3_begin_15 dX3_begin_17 dX3_begin_20 htab (by decide) (by decide) (by decide) (by decide) hlocks (by first | exact ⟨rfl, by omega⟩ | omega) (by decide) (by decide)
  · skip
    refine lv_iload_n hx hb dX3_begin_5 rfl (lv_at hl 1 rfl) ?_
    refine lv_bipush (v := nI (8)) hx hb dX3_begin_6 (by decide) ?_
    refine q_icmp_le (u := (x0).toInt) (v := ((8 : Nat) : Int)) (tgt := 21) hx hb dX3_begin_8 (by decide) (rfl) (nI_toInt (by omega)) (fun c_8 => ?_) (fun c_8 => ?_)
    · skip
      refine lv_iload_n hx hb dX3_begin_21 rfl (lv_at hl 2 rfl) ?_
      refine lv_iconst (v := nI (1)) hx hb dX3_begin_22 (by decide) ?_
      refine q_icmp_lt (u := (x1).toInt) (v := ((1 : Nat) : Int)) (tgt := 32) hx hb dX3_begin_23 (by decide) (rfl) (nI_toInt (by omega)) (fun c_23 => ?_) (fun c_23 => ?_)
      · skip
        exact q_throw (b0 := b0) (text := "patience is not 1 to 20") (Ts := wsX3_begin) hx hb hfl hown (by decide +kernel) hts (List.mem_of_getElem? (i := 1) rfl) (List.mem_of_getElem? (i := 2) rfl) hX (List.mem_of_getElem? (i := 9) rfl) htX3_begin_51 vx_bad_51 vx_good_51 (hl.1.trans hml.symm) dX3_begin_32 dX3_begin_35 dX3_begin_36 dX3_begin_38 dX3_begin_41 htab (by decide) (by decide) (by decide) (by decide) hlocks (by first | exact ⟨rfl, by omega⟩ | omega) (by decide) (by decide)
      · skip
        refine lv_iload_n hx hb dX3_begin_26 rfl (lv_at hl 2 rfl) ?_
        refine lv_bipush (v := nI (20)) hx hb dX3_begin_27 (by decide) ?_
        refine q_icmp_le (u := (x1).toInt) (v := ((20 : Nat) : Int)) (tgt := 42) hx hb dX3_begin_29 (by decide) (rfl) (nI_toInt (by omega)) (fun c_29 => ?_) (fun c_29 => ?_)
        · skip
          have ht_x0 := tn_i (x := x0) (by omega)
          have ht_x1 := tn_i (x := x1) (by omega)
          refine lv_aload_n hx hb dX3_begin_42 rfl (lv_at hl 0 rfl) ?_
          refine va_get (D := D) (ci := 2) (v := .int (nI (sent))) (C := RX3) (T := TX3) (N := 13) hx hb hts iwX3_begin_X3 hown hK hP 0 rfl rfl 2 (by decide) (hts (.fieldLink RX3 56 "RepairSender" "sentCount" "I") (List.mem_of_getElem? (i := 3) rfl)) (fun _ h9 => h9) rfl dX3_begin_43 ?_
          refine lv_istore_n (lv' := [(3, .int (nI (sent))), (0, .ref (ad 0)), (1, .int (x0)), (2, .int (x1))]) hx hb dX3_begin_46 rfl hl (by decide) rfl (fun ls hl => ?_)
          refine lv_aload_n hx hb dX3_begin_47 rfl (lv_at hl 1 rfl) ?_
          refine lv_iload_n hx hb dX3_begin_48 rfl (lv_at hl 2 rfl) ?_
          refine q_top (show (x0) = nI (tn x0) from tn_I (by omega)) ?_
          refine lv_iload_n hx hb dX3_begin_49 rfl (lv_at hl 3 rfl) ?_
          refine q_top (show (x1) = nI (tn x1) from tn_I (by omega)) ?_
          have hPc : va_P D vwCl (wA cI cZ ad (pat) (sent) (rep) (kept) (rc) (los) (wai) (set) (bad) (gon) (bk) (bp) (bv)) s.heap := hP
          refine q_cv (wc := (wA cI cZ ad (pat) (sent) (rep) (kept) (rc) (los) (wai) (set) (bad) (gon) (bk) (bp) (bv))) (wr := []) (w1 := fun _ => (wA cI cZ ad ((tn x1)) (0) (0) (0) (0) (los) (wai) (set) (bad) (gon) ((tn x0)) (idp (tn x0) bp) (zrv (tn x0) bv))) (va_runV (As := [.int (nI (tn x0)), .int (nI (tn x1))]) (rest := []) ⟨hx, hb, hml, hown, hts⟩ (c_X3_startBlock l D cI cZ cQ cL (ad) (pat) (sent) (rep) (kept) (rc) (los) (wai) (set) (bad) (gon) (bk) (bp) (bv) (tn x0) (tn x1) s.heap.size (by omega)) (cwV 2 hts gX3_begin_X3_startBlock rfl rfl rfl ⟨rfl, hd_X3_startBlock⟩ ⟨Nat.le_of_ble_eq_true rfl, Nat.le_of_ble_eq_true rfl⟩) (PW_v (q := (RX3, TX3, 13)) (ci := 2) (q0 := 0) hPc hK hD hN rfl rfl) rfl rfl hl.1 rfl (lv_room (Nat.le_of_ble_eq_true rfl)) dX3_begin_50 ⟨Nat.le_of_ble_eq_true rfl, Nat.le_of_ble_eq_true rfl⟩) hP hD hS hA [0, 1, 2, 3, 4, 5, 6, 7, 8] [] rfl rfl (by decide) (by decide) (fun u_50 H locs h_50 hP hD hS => ?_)
          have hP : va_P D vwCl (wA cI cZ ad ((tn x1)) (0) (0) (0) (0) (los) (wai) (set) (bad) (gon) ((tn x0)) (idp (tn x0) bp) (zrv (tn x0) bv)) H := hP
          have hD : va_D A (wA cI cZ ad ((tn x1)) (0) (0) (0) (0) (los) (wai) (set) (bad) (gon) ((tn x0)) (idp (tn x0) bp) (zrv (tn x0) bv)) := hD
          refine lv_iload_n hx hb dX3_begin_53 rfl (lv_at hl 0 rfl) ?_
          refine W.widen (k := 1) (n := 6) (by decide) (by decide) ?_
          refine vx_ret ?_
          have hP : va_P D vwCl (wA cI cZ ad (tn x1) (0) (0) (0) (0) (los) (wai) (set) (bad) (gon) (tn x0) (idp (tn x0) bp) (zrv (tn x0) bv)) H := hP
          have hD : va_D A (wA cI cZ ad (tn x1) (0) (0) (0) (0) (los) (wai) (set) (bad) (gon) (tn x0) (idp (tn x0) bp) (zrv (tn x0) bv)) := hD
          exact W.iret (v := nI (sent)) hx hb hr (fun t ht hW => ⟨⟨_, (), rfl, (by exact ⟨rfl, by omega⟩), by rw [ht]; exact hP, hD⟩, hS.F ht⟩) hS.2.2 dX3_begin_54
        · skip
          exact q_throw (b0 := b0) (text := "patience is not 1 to 20") (Ts := wsX3_begin) hx hb hfl hown (by decide +kernel) hts (List.mem_of_getElem? (i := 1) rfl) (List.mem_of_getElem? (i := 2) rfl) hX (List.mem_of_getElem? (i := 9) rfl) htX3_begin_51 vx_bad_51 vx_good_51 (hl.1.trans hml.symm) dX3_begin_32 dX3_begin_35 dX3_begin_36 dX3_begin_38 dX3_begin_41 htab (by decide) (by decide) (by decide) (by decide) hlocks (by first | exact ⟨rfl, by omega⟩ | omega) (by decide) (by decide)
    · skip
      exact q_throw (b0 := b0) (text := "k is not 1 to 8") (Ts := wsX3_begin) hx hb hfl hown (by decide +kernel) hts (List.mem_of_getElem? (i := 1) rfl) (List.mem_of_getElem? (i := 2) rfl) hX (List.mem_of_getElem? (i := 8) rfl) htX3_begin_51 vx_bad_51 vx_good_51 (hl.1.trans hml.symm) dX3_begin_11 dX3_begin_14 dX3_begin_15 dX3_begin_17 dX3_begin_20 htab (by decide) (by decide) (by decide) (by decide) hlocks (by first | exact ⟨rfl, by omega⟩ | omega) (by decide) (by decide)

theorem iwX3_setDatum_X3 : ∀ w ∈ wsX30, w ∈ wsX3_setDatum := by decide +kernel
theorem iwX3_setDatum_X2 : ∀ w ∈ wsX20, w ∈ wsX3_setDatum := by decide +kernel
theorem htX3_setDatum_74 : ∀ w ∈ (vx_atS RX3 74 "java/lang/IllegalStateException" ["java/lang/RuntimeException", "java/lang/Exception"]).filter goodWord, w ∈ wsX3_setDatum := by decide +kernel
theorem htX3_setDatum_51 : ∀ w ∈ (vx_atS RX3 51 "java/lang/IllegalArgumentException" ["java/lang/RuntimeException", "java/lang/Exception"]).filter goodWord, w ∈ wsX3_setDatum := by decide +kernel
set_option maxHeartbeats 4000000 in
set_option maxRecDepth 100000 in
theorem c_X3_setDatum (l : Launch) (D : va_G) (cI cZ cQ cL : ClassId) (hfl : l.stackTraces = false) (b0 : Nat) (ad : Nat → Nat) (pat : Nat) (sent : Nat) (rep : Nat) (kept : Nat) (rc : Nat) (los : Nat → Nat) (wai : Nat → Nat) (set : Nat → Nat) (bad : Nat → Nat) (gon : Nat → Nat) (bk : Nat) (bp : Nat → B8) (bv : Nat → B8) (x0 : Int32) (x1 : Int32) (sz : Nat) (hbk : bk ≤ 8) (hse : sent ≤ 10000) : vx_Met l yX3_setDatum wsX3_setDatum ({ frames := 7, cells := 2, slots := 12, locals := 117 } : Room) (PX b0 D (TY cI cZ cQ cL) (wA cI cZ ad (pat) (sent) (rep) (kept) (rc) (los) (wai) (set) (bad) (gon) (bk) (bp) (bv)) sz [.ref (ad 0), .int (x0), .int (x1)]) (QI D (va_A (wA cI cZ ad (pat) (sent) (rep) (kept) (rc) (los) (wai) (set) (bad) (gon) (bk) (bp) (bv)) sz) (fun z9 (_ : Unit) => z9 = bI (bv (tn x0)) ∧ ((0 ≤ x0.toInt ∧ x0.toInt < bk) ∧ (0 ≤ x1.toInt ∧ x1.toInt ≤ 255) ∧ sent = 0)) (fun _ => (wA cI cZ ad (pat) (sent) (rep) (kept) (rc) (los) (wai) (set) (bad) (gon) (bk) (bp) (ub bv (tn x0) (BitVec.ofNat 8 (tn x1)))))) (XC (fun E => (E = "java/lang/IndexOutOfBoundsException" ∧ ¬ (0 ≤ x0.toInt ∧ x0.toInt < bk)) ∨ (E = "java/lang/IllegalArgumentException" ∧ (0 ≤ x0.toInt ∧ x0.toInt < bk) ∧ ¬ (0 ≤ x1.toInt ∧ x1.toInt ≤ 255)) ∨ (E = "java/lang/IllegalStateException" ∧ (0 ≤ x0.toInt ∧ x0.toInt < bk) ∧ (0 ≤ x1.toInt ∧ x1.toInt ≤ 255) ∧ ¬ sent = 0))) 2 12 (va_A (wA cI cZ ad (pat) (sent) (rep) (kept) (rc) (los) (wai) (set) (bad) (gon) (bk) (bp) (bv)) sz) := by
  refine vx_ofW (cc := cX3_setDatum) (maxL := 4) (ret := (some .int)) (by decide) rfl ?_
  intro p e s m args below meth c s₁ B hml htab hv
  obtain ⟨rfl, hsz, hP, hK, hD0, hN, hX⟩ := hv
  have hx := B.exec
  have hb := B.bytes
  have hr := B.returns
  have hts := atoms_spec (ws := wsX3_setDatum) B.pre
  have hown : s.vm.findClass RX3 = some m.cls := findClass_of_methodNamed B.named
  have hlocks := B.notSynchronized
  subst hsz
  have hD := hD0.self (sz := s.heap.size)
  generalize hAe : va_A (wA cI cZ ad (pat) (sent) (rep) (kept) (rc) (los) (wai) (set) (bad) (gon) (bk) (bp) (bv)) s.heap.size = A at hD ⊢
  have hA : ∀ q : Nat, s.heap.size ≤ q → A q := fun q h => by rw [← hAe]; exact Or.inr h
  have hS : va_S A s.heap s.heap [] := va_S.rf
  have hl := lv_entry ([.ref (ad 0), .int (x0), .int (x1)]) (n := 4) (Nat.le_of_ble_eq_true rfl)
  rw [lg_entry_eq]
  generalize (lg_sl ([.ref (ad 0), .int (x0), .int (x1)]) ++ List.replicate (4 - (lg_sl ([.ref (ad 0), .int (x0), .int (x1)])).length) Slot.unset).toArray = ls at hl ⊢
  have hl : lv_has ls 4 [(0, .ref (ad 0)), (1, .int (x0)), (2, .int (x1))] := hl
  refine lv_aload_n hx hb dX3_setDatum_0 rfl (lv_at hl 0 rfl) ?_
  refine lv_iload_n hx hb dX3_setDatum_1 rfl (lv_at hl 1 rfl) ?_
  have hPc : va_P D vwCl (wA cI cZ ad (pat) (sent) (rep) (kept) (rc) (los) (wai) (set) (bad) (gon) (bk) (bp) (bv)) s.heap := hP
  refine q_xv (vx_runV (As := [.int (x0)]) (rest := []) ⟨hx, hb, hml, hown, hts⟩ (c_X3_demandPlace l D cI cZ cQ cL hfl b0 (ad) (pat) (sent) (rep) (kept) (rc) (los) (wai) (set) (bad) (gon) (bk) (bp) (bv) (x0) s.heap.size (hbk)) (cwV 1 hts gX3_setDatum_X3_demandPlace rfl rfl rfl ⟨rfl, hd_X3_demandPlace⟩ ⟨Nat.le_of_ble_eq_true rfl, Nat.le_of_ble_eq_true rfl⟩) (PX_v (q := (RX3, TX3, 13)) (ci := 2) (q0 := 0) hPc hK hD hN hX (fun _ _ _ => rfl) rfl rfl) rfl rfl hl.1 rfl (lv_room (Nat.le_of_ble_eq_true rfl)) dX3_setDatum_2 ⟨Nat.le_of_ble_eq_true rfl, Nat.le_of_ble_eq_true rfl⟩) htab hlocks (fun E h => Or.inl h) (by decide) (by decide) (fun h_2 => ?_)
  have h_2 : 0 ≤ x0.toInt ∧ x0.toInt < bk := h_2
  refine lv_iload_n hx hb dX3_setDatum_5 rfl (lv_at hl 2 rfl) ?_
  refine q_csi (va_runS (As := [.int (x1)]) (rest := []) ⟨hx, hb, hml, hown, hts⟩ (c_X3_isFieldNumber l (x1) ) (va_cwS 1 hts gX3_setDatum_X3_isFieldNumber rfl rfl rfl hd_X3_isFieldNumber ⟨Nat.le_of_ble_eq_true rfl, Nat.le_of_ble_eq_true rfl⟩) P0_s rfl rfl hl.1 rfl (lv_room (Nat.le_of_ble_eq_true rfl)) dX3_setDatum_6 ⟨Nat.le_of_ble_eq_true rfl, Nat.le_of_ble_eq_true rfl⟩) (fun r_6 hr_6 => ?_)
  rcases hr_6 with ⟨rfl, h_6⟩ | ⟨rfl, h_6⟩
  · have h_6 : 0 ≤ x1.toInt ∧ x1.toInt ≤ 255 := h_6
    refine q_if_ne (u := ((1 : Nat) : Int)) (tgt := 22) hx hb dX3_setDatum_9 (by decide) (nI_toInt (by omega)) (fun _ => ?_) (fun c_9 => absurd c_9 (by decide))
    refine lv_aload_n hx hb dX3_setDatum_22 rfl (lv_at hl 0 rfl) ?_
    refine va_get (D := D) (ci := 2) (v := .int (nI (sent))) (C := RX3) (T := TX3) (N := 13) hx hb hts iwX3_setDatum_X3 hown hK hP 0 rfl rfl 2 (by decide) (hts (.fieldLink RX3 56 "RepairSender" "sentCount" "I") (List.mem_of_getElem? (i := 5) rfl)) (fun _ h9 => h9) rfl dX3_setDatum_23 ?_
    refine q_if_le (u := ((sent : Nat) : Int)) (tgt := 39) hx hb dX3_setDatum_26 (by decide) (nI_toInt (by omega)) (fun c_26 => ?_) (fun c_26 => ?_)
    · skip
      have ht_x0 := tn_i (x := x0) (by omega)
      have ht_x1 := tn_i (x := x1) (by omega)
      refine lv_aload_n hx hb dX3_setDatum_39 rfl (lv_at hl 0 rfl) ?_
      refine va_get (D := D) (ci := 2) (v := .ref (ad 6)) (C := RX3) (T := TX3) (N := 13) hx hb hts iwX3_setDatum_X3 hown hK hP 0 rfl rfl 0 (by decide) (hts (.fieldLink RX3 10 "RepairSender" "block" "LRepairSender$Points;") (List.mem_of_getElem? (i := 6) rfl)) (fun _ h9 => h9) rfl dX3_setDatum_40 ?_
      refine va_getN (D := D) (ci := 1) (v := .ref (ad 8)) (C := RX2) (T := TX2) (N := 3) (host := "RepairSender") hx hb hts iwX3_setDatum_X2 hown hK hP 6 rfl rfl 1 (by decide) (va_Nw.use rfl (hN _ (List.mem_of_getElem? (i := 3) rfl))) (fun _ h9 => h9) rfl dX3_setDatum_43 ?_
      refine lv_iload_n hx hb dX3_setDatum_46 rfl (lv_at hl 1 rfl) ?_
      refine q_top (show (x0) = nI (tn x0) from tn_I (by omega)) ?_
      refine q_ialdB (f := bv) (j := tn x0) hx hb hK hP 8 0 rfl rfl (by omega) (by decide) dX3_setDatum_47 ?_
      refine lv_istore_n (lv' := [(3, .int (bI (bv (tn x0)))), (0, .ref (ad 0)), (1, .int (x0)), (2, .int (x1))]) hx hb dX3_setDatum_48 rfl hl (by decide) rfl (fun ls hl => ?_)
      refine lv_aload_n hx hb dX3_setDatum_49 rfl (lv_at hl 1 rfl) ?_
      refine va_get (D := D) (ci := 2) (v := .ref (ad 6)) (C := RX3) (T := TX3) (N := 13) hx hb hts iwX3_setDatum_X3 hown hK hP 0 rfl rfl 0 (by decide) (hts (.fieldLink RX3 10 "RepairSender" "block" "LRepairSender$Points;") (List.mem_of_getElem? (i := 6) rfl)) (fun _ h9 => h9) rfl dX3_setDatum_50 ?_
      refine va_getN (D := D) (ci := 1) (v := .ref (ad 8)) (C := RX2) (T := TX2) (N := 3) (host := "RepairSender") hx hb hts iwX3_setDatum_X2 hown hK hP 6 rfl rfl 1 (by decide) (va_Nw.use rfl (hN _ (List.mem_of_getElem? (i := 3) rfl))) (fun _ h9 => h9) rfl dX3_setDatum_53 ?_
      refine lv_iload_n hx hb dX3_setDatum_56 rfl (lv_at hl 2 rfl) ?_
      refine q_top (show (x0) = nI (tn x0) from tn_I (by omega)) ?_
      refine lv_iload_n hx hb dX3_setDatum_57 rfl (lv_at hl 3 rfl) ?_
      refine q_top (show (x1) = bI (BitVec.ofNat 8 (tn x1)) from tn_B (by omega) (by omega)) ?_
      refine q_iastB (f := bv) (j := tn x0) (y := BitVec.ofNat 8 (tn x1)) hx hb hK hP hD hS 8 0 rfl rfl (by omega) (by decide) dX3_setDatum_58 (fun H locs hP hD hS => ?_)
      have hP : va_P D vwCl (wA cI cZ ad (pat) (sent) (rep) (kept) (rc) (los) (wai) (set) (bad) (gon) (bk) (bp) (ub bv (tn x0) (BitVec.ofNat 8 (tn x1)))) H := hP
      have hD : va_D A (wA cI cZ ad (pat) (sent) (rep) (kept) (rc) (los) (wai) (set) (bad) (gon) (bk) (bp) (ub bv (tn x0) (BitVec.ofNat 8 (tn x1)))) := hD
      refine lv_iload_n hx hb dX3_setDatum_59 rfl (lv_at hl 0 rfl) ?_
      refine W.widen (k := 2) (n := 12) (by decide) (by decide) ?_
      refine vx_ret ?_
      have hP : va_P D vwCl (wA cI cZ ad (pat) (sent) (rep) (kept) (rc) (los) (wai) (set) (bad) (gon) (bk) (bp) (ub bv (tn x0) (BitVec.ofNat 8 (tn x1)))) H := hP
      have hD : va_D A (wA cI cZ ad (pat) (sent) (rep) (kept) (rc) (los) (wai) (set) (bad) (gon) (bk) (bp) (ub bv (tn x0) (BitVec.ofNat 8 (tn x1)))) := hD
      exact W.iret (v := bI (bv (tn x0))) hx hb hr (fun t ht hW => ⟨⟨_, (), rfl, (by exact ⟨rfl, h_2, h_6, by omega⟩), by rw [ht]; exact hP, hD⟩, hS.F ht⟩) hS.2.2 dX3_setDatum_60
    · skip
      exact q_throw (b0 := b0) (text := "something was sent") (Ts := wsX3_setDatum) hx hb hfl hown (by decide +kernel) hts (List.mem_of_getElem? (i := 3) rfl) (List.mem_of_getElem? (i := 4) rfl) hX (List.mem_of_getElem? (i := 11) rfl) htX3_setDatum_74 vx_bad_74 vx_good_74 (hl.1.trans hml.symm) dX3_setDatum_29 dX3_setDatum_32 dX3_setDatum_33 dX3_setDatum_35 dX3_setDatum_38 htab (by decide) (by decide) (by decide) (by decide) hlocks (Or.inr (Or.inr ⟨rfl, h_2, h_6, by omega⟩)) (by decide) (by decide)
  · have h_6 : ¬ (0 ≤ x1.toInt ∧ x1.toInt ≤ 255) := h_6
    refine q_if_ne (u := ((0 : Nat) : Int)) (tgt := 22) hx hb dX3_setDatum_9 (by decide) (nI_toInt (by omega)) (fun c_9 => absurd c_9 (by decide)) (fun _ => ?_)
    exact q_throw (b0 := b0) (text := "value is not 0 to 255") (Ts := wsX3_setDatum) hx hb hfl hown (by decide +kernel) hts (List.mem_of_getElem? (i := 1) rfl) (List.mem_of_getElem? (i := 2) rfl) hX (List.mem_of_getElem? (i := 10) rfl) htX3_setDatum_51 vx_bad_51 vx_good_51 (hl.1.trans hml.symm) dX3_setDatum_12 dX3_setDatum_15 dX3_setDatum_16 dX3_setDatum_18 dX3_setDatum_21 htab (by decide) (by decide) (by decide) (by decide) hlocks (Or.inr (Or.inl ⟨rfl, h_2, h_6⟩)) (by decide) (by decide)

theorem iwX3_join_X3 : ∀ w ∈ wsX30, w ∈ wsX3_join := by decide +kernel
theorem htX3_join_74 : ∀ w ∈ (vx_atS RX3 74 "java/lang/IllegalStateException" ["java/lang/RuntimeException", "java/lang/Exception"]).filter goodWord, w ∈ wsX3_join := by decide +kernel
set_option maxHeartbeats 4000000 in
set_option maxRecDepth 100000 in
theorem c_X3_join (l : Launch) (D : va_G) (cI cZ cQ cL : ClassId) (hfl : l.stackTraces = false) (b0 : Nat) (ad : Nat → Nat) (pat : Nat) (sent : Nat) (rep : Nat) (kept : Nat) (rc : Nat) (los : Nat → Nat) (wai : Nat → Nat) (set : Nat → Nat) (bad : Nat → Nat) (gon : Nat → Nat) (bk : Nat) (bp : Nat → B8) (bv : Nat → B8) (x0 : Int32) (x1 : Int32) (sz : Nat) (hrc : rc ≤ 6) : vx_Met l yX3_join wsX3_join ({ frames := 7, cells := 3, slots := 18, locals := 116 } : Room) (PX b0 D (TY cI cZ cQ cL) (wA cI cZ ad (pat) (sent) (rep) (kept) (rc) (los) (wai) (set) (bad) (gon) (bk) (bp) (bv)) sz [.ref (ad 0), .int (x0), .int (x1)]) (QI D (va_A (wA cI cZ ad (pat) (sent) (rep) (kept) (rc) (los) (wai) (set) (bad) (gon) (bk) (bp) (bv)) sz) (fun z9 (_ : Unit) => z9 = nI (rc) ∧ ((0 ≤ x0.toInt ∧ x0.toInt ≤ 2047) ∧ (0 ≤ x1.toInt ∧ x1.toInt ≤ 20) ∧ rc < 6)) (fun _ => (wA cI cZ ad (pat) (sent) (rep) (kept) (rc + 1) (un los rc (tn x0)) (un wai rc (tn x1)) (un set rc 0) (un bad rc 0) (un gon rc 0) (bk) (bp) (bv)))) (XC (fun E => (E = "java/lang/IllegalArgumentException" ∧ ¬ ((0 ≤ x0.toInt ∧ x0.toInt ≤ 2047) ∧ (0 ≤ x1.toInt ∧ x1.toInt ≤ 20))) ∨ (E = "java/lang/IllegalStateException" ∧ ((0 ≤ x0.toInt ∧ x0.toInt ≤ 2047) ∧ (0 ≤ x1.toInt ∧ x1.toInt ≤ 20)) ∧ ¬ rc < 6))) 3 18 (va_A (wA cI cZ ad (pat) (sent) (rep) (kept) (rc) (los) (wai) (set) (bad) (gon) (bk) (bp) (bv)) sz) := by
  refine vx_ofW (cc := cX3_join) (maxL := 4) (ret := (some .int)) (by decide) rfl ?_
  intro p e s m args below meth c s₁ B hml htab hv
  obtain ⟨rfl, hsz, hP, hK, hD0, hN, hX⟩ := hv
  have hx := B.exec
  have hb := B.bytes
  have hr := B.returns
  have hts := atoms_spec (ws := wsX3_join) B.pre
  have hown : s.vm.findClass RX3 = some m.cls := findClass_of_methodNamed B.named
  have hlocks := B.notSynchronized
  subst hsz
  have hD := hD0.self (sz := s.heap.size)
  generalize hAe : va_A (wA cI cZ ad (pat) (sent) (rep) (kept) (rc) (los) (wai) (set) (bad) (gon) (bk) (bp) (bv)) s.heap.size = A at hD ⊢
  have hA : ∀ q : Nat, s.heap.size ≤ q → A q := fun q h => by rw [← hAe]; exact Or.inr h
  have hS : va_S A s.heap s.heap [] := va_S.rf
  have hl := lv_entry ([.ref (ad 0), .int (x0), .int (x1)]) (n := 4) (Nat.le_of_ble_eq_true rfl)
  rw [lg_entry_eq]
  generalize (lg_sl ([.ref (ad 0), .int (x0), .int (x1)]) ++ List.replicate (4 - (lg_sl ([.ref (ad 0), .int (x0), .int (x1)])).length) Slot.unset).toArray = ls at hl ⊢
  have hl : lv_has ls 4 [(0, .ref (ad 0)), (1, .int (x0)), (2, .int (x1))] := hl
  refine lv_iload_n hx hb dX3_join_0 rfl (lv_at hl 1 rfl) ?_
  refine q_xv (vx_runS (As := [.int (x0)]) (rest := []) ⟨hx, hb, hml, hown, hts⟩ (c_X3_demandLosses l D cI cZ cQ cL hfl b0 (x0) s.heap.size ) (va_cwS 1 hts gX3_join_X3_demandLosses rfl rfl rfl hd_X3_demandLosses ⟨Nat.le_of_ble_eq_true rfl, Nat.le_of_ble_eq_true rfl⟩) (P0X_s hX (fun _ _ _ => rfl)) rfl rfl hl.1 rfl (lv_room (Nat.le_of_ble_eq_true rfl)) dX3_join_1 ⟨Nat.le_of_ble_eq_true rfl, Nat.le_of_ble_eq_true rfl⟩) htab hlocks (fun E h => Or.inl ⟨h.1, fun z => h.2 z.1⟩) (by decide) (by decide) (fun h_1 => ?_)
  have h_1 : 0 ≤ x0.toInt ∧ x0.toInt ≤ 2047 := h_1
  refine lv_iload_n hx hb dX3_join_4 rfl (lv_at hl 2 rfl) ?_
  refine q_xv (vx_runS (As := [.int (x1)]) (rest := []) ⟨hx, hb, hml, hown, hts⟩ (c_X3_demandWait l D cI cZ cQ cL hfl b0 (x1) s.heap.size ) (va_cwS 1 hts gX3_join_X3_demandWait rfl rfl rfl hd_X3_demandWait ⟨Nat.le_of_ble_eq_true rfl, Nat.le_of_ble_eq_true rfl⟩) (P0X_s hX (fun _ _ _ => rfl)) rfl rfl hl.1 rfl (lv_room (Nat.le_of_ble_eq_true rfl)) dX3_join_5 ⟨Nat.le_of_ble_eq_true rfl, Nat.le_of_ble_eq_true rfl⟩) htab hlocks (fun E h => Or.inl ⟨h.1, fun z => h.2 z.2⟩) (by decide) (by decide) (fun h_5 => ?_)
  have h_5 : 0 ≤ x1.toInt ∧ x1.toInt ≤ 20 := h_5
  refine lv_aload_n hx hb dX3_join_8 rfl (lv_at hl 0 rfl) ?_
  refine va_get (D := D) (ci := 2) (v := .int (nI (rc))) (C := RX3) (T := TX3) (N := 13) hx hb hts iwX3_join_X3 hown hK hP 0 rfl rfl 5 (by decide) (hts (.fieldLink RX3 84 "RepairSender" "receiverCount" "I") (List.mem_of_getElem? (i := 3) rfl)) (fun _ h9 => h9) rfl dX3_join_9 ?_
  refine lv_bipush (v := nI (6)) hx hb dX3_join_12 (by decide) ?_
  refine q_icmp_lt (u := ((rc : Nat) : Int)) (v := ((6 : Nat) : Int)) (tgt := 27) hx hb dX3_join_14 (by decide) (nI_toInt (by omega)) (nI_toInt (by omega)) (fun c_14 => ?_) (fun c_14 => ?_)
  · skip
    have ht_x0 := tn_i (x := x0) (by omega)
    have ht_x1 := tn_i (x := x1) (by omega)
    refine lv_aload_n hx hb dX3_join_27 rfl (lv_at hl 0 rfl) ?_
    refine va_get (D := D) (ci := 2) (v := .int (nI (rc))) (C := RX3) (T := TX3) (N := 13) hx hb hts iwX3_join_X3 hown hK hP 0 rfl rfl 5 (by decide) (hts (.fieldLink RX3 84 "RepairSender" "receiverCount" "I") (List.mem_of_getElem? (i := 3) rfl)) (fun _ h9 => h9) rfl dX3_join_28 ?_
    refine lv_istore_n (lv' := [(3, .int (nI (rc))), (0, .ref (ad 0)), (1, .int (x0)), (2, .int (x1))]) hx hb dX3_join_31 rfl hl (by decide) rfl (fun ls hl => ?_)
    refine lv_aload_n hx hb dX3_join_32 rfl (lv_at hl 1 rfl) ?_
    refine va_get (D := D) (ci := 2) (v := .ref (ad 1)) (C := RX3) (T := TX3) (N := 13) hx hb hts iwX3_join_X3 hown hK hP 0 rfl rfl 6 (by decide) (hts (.fieldLink RX3 16 "RepairSender" "losses" "[I") (List.mem_of_getElem? (i := 4) rfl)) (fun _ h9 => h9) rfl dX3_join_33 ?_
    refine lv_iload_n hx hb dX3_join_36 rfl (lv_at hl 0 rfl) ?_
    refine lv_iload_n hx hb dX3_join_37 rfl (lv_at hl 2 rfl) ?_
    refine q_top (show (x0) = nI (tn x0) from tn_I (by omega)) ?_
    refine q_iast (f := los) (j := rc) (y := tn x0) hx hb hK hP hD hS 1 0 rfl rfl (by omega) (by decide) dX3_join_38 (fun H locs hP hD hS => ?_)
    have hP : va_P D vwCl (wA cI cZ ad (pat) (sent) (rep) (kept) (rc) (un los rc (tn x0)) (wai) (set) (bad) (gon) (bk) (bp) (bv)) H := hP
    have hD : va_D A (wA cI cZ ad (pat) (sent) (rep) (kept) (rc) (un los rc (tn x0)) (wai) (set) (bad) (gon) (bk) (bp) (bv)) := hD
    refine lv_aload_n hx hb dX3_join_39 rfl (lv_at hl 1 rfl) ?_
    refine va_get (D := D) (ci := 2) (v := .ref (ad 2)) (C := RX3) (T := TX3) (N := 13) hx hb hts iwX3_join_X3 hown hK hP 0 rfl rfl 7 (by decide) (hts (.fieldLink RX3 20 "RepairSender" "waits" "[I") (List.mem_of_getElem? (i := 5) rfl)) (fun _ h9 => h9) rfl dX3_join_40 ?_
    refine lv_iload_n hx hb dX3_join_43 rfl (lv_at hl 0 rfl) ?_
    refine lv_iload_n hx hb dX3_join_44 rfl (lv_at hl 3 rfl) ?_
    refine q_top (show (x1) = nI (tn x1) from tn_I (by omega)) ?_
    refine q_iast (f := wai) (j := rc) (y := tn x1) hx hb hK hP hD hS 2 0 rfl rfl (by omega) (by decide) dX3_join_45 (fun H locs hP hD hS => ?_)
    have hP : va_P D vwCl (wA cI cZ ad (pat) (sent) (rep) (kept) (rc) (un los rc (tn x0)) (un wai rc (tn x1)) (set) (bad) (gon) (bk) (bp) (bv)) H := hP
    have hD : va_D A (wA cI cZ ad (pat) (sent) (rep) (kept) (rc) (un los rc (tn x0)) (un wai rc (tn x1)) (set) (bad) (gon) (bk) (bp) (bv)) := hD
    refine lv_aload_n hx hb dX3_join_46 rfl (lv_at hl 1 rfl) ?_
    refine va_get (D := D) (ci := 2) (v := .ref (ad 3)) (C := RX3) (T := TX3) (N := 13) hx hb hts iwX3_join_X3 hown hK hP 0 rfl rfl 8 (by decide) (hts (.fieldLink RX3 23 "RepairSender" "packetSets" "[I") (List.mem_of_getElem? (i := 6) rfl)) (fun _ h9 => h9) rfl dX3_join_47 ?_
    refine lv_iload_n hx hb dX3_join_50 rfl (lv_at hl 0 rfl) ?_
    refine lv_iconst (v := nI (0)) hx hb dX3_join_51 (by decide) ?_
    refine q_iast (f := set) (j := rc) (y := 0) hx hb hK hP hD hS 3 0 rfl rfl (by omega) (by decide) dX3_join_52 (fun H locs hP hD hS => ?_)
    have hP : va_P D vwCl (wA cI cZ ad (pat) (sent) (rep) (kept) (rc) (un los rc (tn x0)) (un wai rc (tn x1)) (un set rc 0) (bad) (gon) (bk) (bp) (bv)) H := hP
    have hD : va_D A (wA cI cZ ad (pat) (sent) (rep) (kept) (rc) (un los rc (tn x0)) (un wai rc (tn x1)) (un set rc 0) (bad) (gon) (bk) (bp) (bv)) := hD
    refine lv_aload_n hx hb dX3_join_53 rfl (lv_at hl 1 rfl) ?_
    refine va_get (D := D) (ci := 2) (v := .ref (ad 4)) (C := RX3) (T := TX3) (N := 13) hx hb hts iwX3_join_X3 hown hK hP 0 rfl rfl 9 (by decide) (hts (.fieldLink RX3 26 "RepairSender" "badCounts" "[I") (List.mem_of_getElem? (i := 7) rfl)) (fun _ h9 => h9) rfl dX3_join_54 ?_
    refine lv_iload_n hx hb dX3_join_57 rfl (lv_at hl 0 rfl) ?_
    refine lv_iconst (v := nI (0)) hx hb dX3_join_58 (by decide) ?_
    refine q_iast (f := bad) (j := rc) (y := 0) hx hb hK hP hD hS 4 0 rfl rfl (by omega) (by decide) dX3_join_59 (fun H locs hP hD hS => ?_)
    have hP : va_P D vwCl (wA cI cZ ad (pat) (sent) (rep) (kept) (rc) (un los rc (tn x0)) (un wai rc (tn x1)) (un set rc 0) (un bad rc 0) (gon) (bk) (bp) (bv)) H := hP
    have hD : va_D A (wA cI cZ ad (pat) (sent) (rep) (kept) (rc) (un los rc (tn x0)) (un wai rc (tn x1)) (un set rc 0) (un bad rc 0) (gon) (bk) (bp) (bv)) := hD
    refine lv_aload_n hx hb dX3_join_60 rfl (lv_at hl 1 rfl) ?_
    refine va_get (D := D) (ci := 2) (v := .ref (ad 5)) (C := RX3) (T := TX3) (N := 13) hx hb hts iwX3_join_X3 hown hK hP 0 rfl rfl 10 (by decide) (hts (.fieldLink RX3 29 "RepairSender" "dropped" "[Z") (List.mem_of_getElem? (i := 8) rfl)) (fun _ h9 => h9) rfl dX3_join_61 ?_
    refine lv_iload_n hx hb dX3_join_64 rfl (lv_at hl 0 rfl) ?_
    refine lv_iconst (v := nI (0)) hx hb dX3_join_65 (by decide) ?_
    refine q_zast (f := gon) (j := rc) (y := 0) hx hb hK hP hD hS 5 1 rfl rfl (by omega) (by decide) (by omega) dX3_join_66 (fun H locs hP hD hS => ?_)
    have hP : va_P D vwCl (wA cI cZ ad (pat) (sent) (rep) (kept) (rc) (un los rc (tn x0)) (un wai rc (tn x1)) (un set rc 0) (un bad rc 0) (un gon rc 0) (bk) (bp) (bv)) H := hP
    have hD : va_D A (wA cI cZ ad (pat) (sent) (rep) (kept) (rc) (un los rc (tn x0)) (un wai rc (tn x1)) (un set rc 0) (un bad rc 0) (un gon rc 0) (bk) (bp) (bv)) := hD
    refine lv_aload_n hx hb dX3_join_67 rfl (lv_at hl 1 rfl) ?_
    refine lv_dup hx hb dX3_join_68 rfl ?_
    refine va_get (D := D) (ci := 2) (v := .int (nI (rc))) (C := RX3) (T := TX3) (N := 13) hx hb hts iwX3_join_X3 hown hK hP 0 rfl rfl 5 (by decide) (hts (.fieldLink RX3 84 "RepairSender" "receiverCount" "I") (List.mem_of_getElem? (i := 3) rfl)) (fun _ h9 => h9) rfl dX3_join_69 ?_
    refine lv_iconst (v := nI (1)) hx hb dX3_join_72 (by decide) ?_
    refine lv_iadd hx hb dX3_join_73 ?_
    refine q_top (show (nI (rc) + nI (1)) = nI (rc + 1) from nI_add _ _) ?_
    refine va_put (D := D) (ci := 2) (v := .int (nI (rc + 1))) (ty := .int) (C := RX3) (T := TX3) (N := 13) hx hb hts iwX3_join_X3 tyX3 tyX3_ok nmX3 hown hK hP hD hS 0 rfl rfl 5 (by decide) (hts (.fieldLink RX3 84 "RepairSender" "receiverCount" "I") (List.mem_of_getElem? (i := 3) rfl)) (fun _ h9 => h9) rfl (by decide +kernel) rfl rfl (Nat.le_of_ble_eq_true rfl) dX3_join_74 (fun H locs hP hD hS => ?_)
    have hP : va_P D vwCl (wA cI cZ ad (pat) (sent) (rep) (kept) (rc + 1) (un los rc (tn x0)) (un wai rc (tn x1)) (un set rc 0) (un bad rc 0) (un gon rc 0) (bk) (bp) (bv)) H := hP
    have hD : va_D A (wA cI cZ ad (pat) (sent) (rep) (kept) (rc + 1) (un los rc (tn x0)) (un wai rc (tn x1)) (un set rc 0) (un bad rc 0) (un gon rc 0) (bk) (bp) (bv)) := hD
    refine lv_iload_n hx hb dX3_join_77 rfl (lv_at hl 0 rfl) ?_
    refine W.widen (k := 3) (n := 18) (by decide) (by decide) ?_
    refine vx_ret ?_
    have hP : va_P D vwCl (wA cI cZ ad (pat) (sent) (rep) (kept) (rc + 1) (un los rc (tn x0)) (un wai rc (tn x1)) (un set rc 0) (un bad rc 0) (un gon rc 0) (bk) (bp) (bv)) H := hP
    have hD : va_D A (wA cI cZ ad (pat) (sent) (rep) (kept) (rc + 1) (un los rc (tn x0)) (un wai rc (tn x1)) (un set rc 0) (un bad rc 0) (un gon rc 0) (bk) (bp) (bv)) := hD
    exact W.iret (v := nI (rc)) hx hb hr (fun t ht hW => ⟨⟨_, (), rfl, (by exact ⟨rfl, h_1, h_5, by omega⟩), by rw [ht]; exact hP, hD⟩, hS.F ht⟩) hS.2.2 dX3_join_78
  · skip
    exact q_throw (b0 := b0) (text := "there are 6 receivers") (Ts := wsX3_join) hx hb hfl hown (by decide +kernel) hts (List.mem_of_getElem? (i := 1) rfl) (List.mem_of_getElem? (i := 2) rfl) hX (List.mem_of_getElem? (i := 12) rfl) htX3_join_74 vx_bad_74 vx_good_74 (hl.1.trans hml.symm) dX3_join_17 dX3_join_20 dX3_join_21 dX3_join_23 dX3_join_26 htab (by decide) (by decide) (by decide) (by decide) hlocks (Or.inr ⟨rfl, ⟨h_1, h_5⟩, by omega⟩) (by decide) (by decide)

theorem iwX3_setLosses_X3 : ∀ w ∈ wsX30, w ∈ wsX3_setLosses := by decide +kernel
set_option maxHeartbeats 4000000 in
set_option maxRecDepth 100000 in
theorem c_X3_setLosses (l : Launch) (D : va_G) (cI cZ cQ cL : ClassId) (hfl : l.stackTraces = false) (b0 : Nat) (ad : Nat → Nat) (pat : Nat) (sent : Nat) (rep : Nat) (kept : Nat) (rc : Nat) (los : Nat → Nat) (wai : Nat → Nat) (set : Nat → Nat) (bad : Nat → Nat) (gon : Nat → Nat) (bk : Nat) (bp : Nat → B8) (bv : Nat → B8) (x0 : Int32) (x1 : Int32) (sz : Nat) (hrc : rc ≤ 6) : vx_Met l yX3_setLosses wsX3_setLosses ({ frames := 7, cells := 2, slots := 12, locals := 117 } : Room) (PX b0 D (TY cI cZ cQ cL) (wA cI cZ ad (pat) (sent) (rep) (kept) (rc) (los) (wai) (set) (bad) (gon) (bk) (bp) (bv)) sz [.ref (ad 0), .int (x0), .int (x1)]) (QI D (va_A (wA cI cZ ad (pat) (sent) (rep) (kept) (rc) (los) (wai) (set) (bad) (gon) (bk) (bp) (bv)) sz) (fun z9 (_ : Unit) => z9 = nI (los (tn x0)) ∧ ((0 ≤ x0.toInt ∧ x0.toInt < rc) ∧ (0 ≤ x1.toInt ∧ x1.toInt ≤ 2047))) (fun _ => (wA cI cZ ad (pat) (sent) (rep) (kept) (rc) (un los (tn x0) (tn x1)) (wai) (set) (bad) (gon) (bk) (bp) (bv)))) (XC (fun E => (E = "java/lang/IndexOutOfBoundsException" ∧ ¬ (0 ≤ x0.toInt ∧ x0.toInt < rc)) ∨ (E = "java/lang/IllegalArgumentException" ∧ (0 ≤ x0.toInt ∧ x0.toInt < rc) ∧ ¬ (0 ≤ x1.toInt ∧ x1.toInt ≤ 2047)))) 2 12 (va_A (wA cI cZ ad (pat) (sent) (rep) (kept) (rc) (los) (wai) (set) (bad) (gon) (bk) (bp) (bv)) sz) := by
  refine vx_ofW (cc := cX3_setLosses) (maxL := 4) (ret := (some .int)) (by decide) rfl ?_
  intro p e s m args below meth c s₁ B hml htab hv
  obtain ⟨rfl, hsz, hP, hK, hD0, hN, hX⟩ := hv
  have hx := B.exec
  have hb := B.bytes
  have hr := B.returns
  have hts := atoms_spec (ws := wsX3_setLosses) B.pre
  have hown : s.vm.findClass RX3 = some m.cls := findClass_of_methodNamed B.named
  have hlocks := B.notSynchronized
  subst hsz
  have hD := hD0.self (sz := s.heap.size)
  generalize hAe : va_A (wA cI cZ ad (pat) (sent) (rep) (kept) (rc) (los) (wai) (set) (bad) (gon) (bk) (bp) (bv)) s.heap.size = A at hD ⊢
  have hA : ∀ q : Nat, s.heap.size ≤ q → A q := fun q h => by rw [← hAe]; exact Or.inr h
  have hS : va_S A s.heap s.heap [] := va_S.rf
  have hl := lv_entry ([.ref (ad 0), .int (x0), .int (x1)]) (n := 4) (Nat.le_of_ble_eq_true rfl)
  rw [lg_entry_eq]
  generalize (lg_sl ([.ref (ad 0), .int (x0), .int (x1)]) ++ List.replicate (4 - (lg_sl ([.ref (ad 0), .int (x0), .int (x1)])).length) Slot.unset).toArray = ls at hl ⊢
  have hl : lv_has ls 4 [(0, .ref (ad 0)), (1, .int (x0)), (2, .int (x1))] := hl
  refine lv_aload_n hx hb dX3_setLosses_0 rfl (lv_at hl 0 rfl) ?_
  refine lv_iload_n hx hb dX3_setLosses_1 rfl (lv_at hl 1 rfl) ?_
  have hPc : va_P D vwCl (wA cI cZ ad (pat) (sent) (rep) (kept) (rc) (los) (wai) (set) (bad) (gon) (bk) (bp) (bv)) s.heap := hP
  refine q_xv (vx_runV (As := [.int (x0)]) (rest := []) ⟨hx, hb, hml, hown, hts⟩ (c_X3_demandReceiver l D cI cZ cQ cL hfl b0 (ad) (pat) (sent) (rep) (kept) (rc) (los) (wai) (set) (bad) (gon) (bk) (bp) (bv) (x0) s.heap.size (hrc)) (cwV 1 hts gX3_setLosses_X3_demandReceiver rfl rfl rfl ⟨rfl, hd_X3_demandReceiver⟩ ⟨Nat.le_of_ble_eq_true rfl, Nat.le_of_ble_eq_true rfl⟩) (PX_v (q := (RX3, TX3, 13)) (ci := 2) (q0 := 0) hPc hK hD hN hX (fun _ _ _ => rfl) rfl rfl) rfl rfl hl.1 rfl (lv_room (Nat.le_of_ble_eq_true rfl)) dX3_setLosses_2 ⟨Nat.le_of_ble_eq_true rfl, Nat.le_of_ble_eq_true rfl⟩) htab hlocks (fun E h => Or.inl h) (by decide) (by decide) (fun h_2 => ?_)
  have h_2 : 0 ≤ x0.toInt ∧ x0.toInt < rc := h_2
  refine lv_iload_n hx hb dX3_setLosses_5 rfl (lv_at hl 2 rfl) ?_
  refine q_xv (vx_runS (As := [.int (x1)]) (rest := []) ⟨hx, hb, hml, hown, hts⟩ (c_X3_demandLosses l D cI cZ cQ cL hfl b0 (x1) s.heap.size ) (va_cwS 1 hts gX3_setLosses_X3_demandLosses rfl rfl rfl hd_X3_demandLosses ⟨Nat.le_of_ble_eq_true rfl, Nat.le_of_ble_eq_true rfl⟩) (P0X_s hX (fun _ _ _ => rfl)) rfl rfl hl.1 rfl (lv_room (Nat.le_of_ble_eq_true rfl)) dX3_setLosses_6 ⟨Nat.le_of_ble_eq_true rfl, Nat.le_of_ble_eq_true rfl⟩) htab hlocks (fun E h => Or.inr ⟨h.1, h_2, h.2⟩) (by decide) (by decide) (fun h_6 => ?_)
  have h_6 : 0 ≤ x1.toInt ∧ x1.toInt ≤ 2047 := h_6
  have ht_x0 := tn_i (x := x0) (by omega)
  have ht_x1 := tn_i (x := x1) (by omega)
  refine lv_aload_n hx hb dX3_setLosses_9 rfl (lv_at hl 0 rfl) ?_
  refine va_get (D := D) (ci := 2) (v := .ref (ad 1)) (C := RX3) (T := TX3) (N := 13) hx hb hts iwX3_setLosses_X3 hown hK hP 0 rfl rfl 6 (by decide) (hts (.fieldLink RX3 16 "RepairSender" "losses" "[I") (List.mem_of_getElem? (i := 1) rfl)) (fun _ h9 => h9) rfl dX3_setLosses_10 ?_
  refine lv_iload_n hx hb dX3_setLosses_13 rfl (lv_at hl 1 rfl) ?_
  refine q_top (show (x0) = nI (tn x0) from tn_I (by omega)) ?_
  refine q_iald (f := los) (j := tn x0) hx hb hK hP 1 0 rfl rfl (by omega) (by decide) dX3_setLosses_14 ?_
  refine lv_istore_n (lv' := [(3, .int (nI (los (tn x0)))), (0, .ref (ad 0)), (1, .int (x0)), (2, .int (x1))]) hx hb dX3_setLosses_15 rfl hl (by decide) rfl (fun ls hl => ?_)
  refine lv_aload_n hx hb dX3_setLosses_16 rfl (lv_at hl 1 rfl) ?_
  refine va_get (D := D) (ci := 2) (v := .ref (ad 1)) (C := RX3) (T := TX3) (N := 13) hx hb hts iwX3_setLosses_X3 hown hK hP 0 rfl rfl 6 (by decide) (hts (.fieldLink RX3 16 "RepairSender" "losses" "[I") (List.mem_of_getElem? (i := 1) rfl)) (fun _ h9 => h9) rfl dX3_setLosses_17 ?_
  refine lv_iload_n hx hb dX3_setLosses_20 rfl (lv_at hl 2 rfl) ?_
  refine q_top (show (x0) = nI (tn x0) from tn_I (by omega)) ?_
  refine lv_iload_n hx hb dX3_setLosses_21 rfl (lv_at hl 3 rfl) ?_
  refine q_top (show (x1) = nI (tn x1) from tn_I (by omega)) ?_
  refine q_iast (f := los) (j := tn x0) (y := tn x1) hx hb hK hP hD hS 1 0 rfl rfl (by omega) (by decide) dX3_setLosses_22 (fun H locs hP hD hS => ?_)
  have hP : va_P D vwCl (wA cI cZ ad (pat) (sent) (rep) (kept) (rc) (un los (tn x0) (tn x1)) (wai) (set) (bad) (gon) (bk) (bp) (bv)) H := hP
  have hD : va_D A (wA cI cZ ad (pat) (sent) (rep) (kept) (rc) (un los (tn x0) (tn x1)) (wai) (set) (bad) (gon) (bk) (bp) (bv)) := hD
  refine lv_iload_n hx hb dX3_setLosses_23 rfl (lv_at hl 0 rfl) ?_
  refine vx_ret ?_
  have hP : va_P D vwCl (wA cI cZ ad (pat) (sent) (rep) (kept) (rc) (un los (tn x0) (tn x1)) (wai) (set) (bad) (gon) (bk) (bp) (bv)) H := hP
  have hD : va_D A (wA cI cZ ad (pat) (sent) (rep) (kept) (rc) (un los (tn x0) (tn x1)) (wai) (set) (bad) (gon) (bk) (bp) (bv)) := hD
  exact W.iret (v := nI (los (tn x0))) hx hb hr (fun t ht hW => ⟨⟨_, (), rfl, (by exact ⟨rfl, h_2, h_6⟩), by rw [ht]; exact hP, hD⟩, hS.F ht⟩) hS.2.2 dX3_setLosses_24

theorem iwX3_setWait_X3 : ∀ w ∈ wsX30, w ∈ wsX3_setWait := by decide +kernel
set_option maxHeartbeats 4000000 in
set_option maxRecDepth 100000 in
theorem c_X3_setWait (l : Launch) (D : va_G) (cI cZ cQ cL : ClassId) (hfl : l.stackTraces = false) (b0 : Nat) (ad : Nat → Nat) (pat : Nat) (sent : Nat) (rep : Nat) (kept : Nat) (rc : Nat) (los : Nat → Nat) (wai : Nat → Nat) (set : Nat → Nat) (bad : Nat → Nat) (gon : Nat → Nat) (bk : Nat) (bp : Nat → B8) (bv : Nat → B8) (x0 : Int32) (x1 : Int32) (sz : Nat) (hrc : rc ≤ 6) : vx_Met l yX3_setWait wsX3_setWait ({ frames := 7, cells := 2, slots := 12, locals := 117 } : Room) (PX b0 D (TY cI cZ cQ cL) (wA cI cZ ad (pat) (sent) (rep) (kept) (rc) (los) (wai) (set) (bad) (gon) (bk) (bp) (bv)) sz [.ref (ad 0), .int (x0), .int (x1)]) (QI D (va_A (wA cI cZ ad (pat) (sent) (rep) (kept) (rc) (los) (wai) (set) (bad) (gon) (bk) (bp) (bv)) sz) (fun z9 (_ : Unit) => z9 = nI (wai (tn x0)) ∧ ((0 ≤ x0.toInt ∧ x0.toInt < rc) ∧ (0 ≤ x1.toInt ∧ x1.toInt ≤ 20))) (fun _ => (wA cI cZ ad (pat) (sent) (rep) (kept) (rc) (los) (un wai (tn x0) (tn x1)) (set) (bad) (gon) (bk) (bp) (bv)))) (XC (fun E => (E = "java/lang/IndexOutOfBoundsException" ∧ ¬ (0 ≤ x0.toInt ∧ x0.toInt < rc)) ∨ (E = "java/lang/IllegalArgumentException" ∧ (0 ≤ x0.toInt ∧ x0.toInt < rc) ∧ ¬ (0 ≤ x1.toInt ∧ x1.toInt ≤ 20)))) 2 12 (va_A (wA cI cZ ad (pat) (sent) (rep) (kept) (rc) (los) (wai) (set) (bad) (gon) (bk) (bp) (bv)) sz) := by
  refine vx_ofW (cc := cX3_setWait) (maxL := 4) (ret := (some .int)) (by decide) rfl ?_
  intro p e s m args below meth c s₁ B hml htab hv
  obtain ⟨rfl, hsz, hP, hK, hD0, hN, hX⟩ := hv
  have hx := B.exec
  have hb := B.bytes
  have hr := B.returns
  have hts := atoms_spec (ws := wsX3_setWait) B.pre
  have hown : s.vm.findClass RX3 = some m.cls := findClass_of_methodNamed B.named
  have hlocks := B.notSynchronized
  subst hsz
  have hD := hD0.self (sz := s.heap.size)
  generalize hAe : va_A (wA cI cZ ad (pat) (sent) (rep) (kept) (rc) (los) (wai) (set) (bad) (gon) (bk) (bp) (bv)) s.heap.size = A at hD ⊢
  have hA : ∀ q : Nat, s.heap.size ≤ q → A q := fun q h => by rw [← hAe]; exact Or.inr h
  have hS : va_S A s.heap s.heap [] := va_S.rf
  have hl := lv_entry ([.ref (ad 0), .int (x0), .int (x1)]) (n := 4) (Nat.le_of_ble_eq_true rfl)
  rw [lg_entry_eq]
  generalize (lg_sl ([.ref (ad 0), .int (x0), .int (x1)]) ++ List.replicate (4 - (lg_sl ([.ref (ad 0), .int (x0), .int (x1)])).length) Slot.unset).toArray = ls at hl ⊢
  have hl : lv_has ls 4 [(0, .ref (ad 0)), (1, .int (x0)), (2, .int (x1))] := hl
  refine lv_aload_n hx hb dX3_setWait_0 rfl (lv_at hl 0 rfl) ?_
  refine lv_iload_n hx hb dX3_setWait_1 rfl (lv_at hl 1 rfl) ?_
  have hPc : va_P D vwCl (wA cI cZ ad (pat) (sent) (rep) (kept) (rc) (los) (wai) (set) (bad) (gon) (bk) (bp) (bv)) s.heap := hP
  refine q_xv (vx_runV (As := [.int (x0)]) (rest := []) ⟨hx, hb, hml, hown, hts⟩ (c_X3_demandReceiver l D cI cZ cQ cL hfl b0 (ad) (pat) (sent) (rep) (kept) (rc) (los) (wai) (set) (bad) (gon) (bk) (bp) (bv) (x0) s.heap.size (hrc)) (cwV 1 hts gX3_setWait_X3_demandReceiver rfl rfl rfl ⟨rfl, hd_X3_demandReceiver⟩ ⟨Nat.le_of_ble_eq_true rfl, Nat.le_of_ble_eq_true rfl⟩) (PX_v (q := (RX3, TX3, 13)) (ci := 2) (q0 := 0) hPc hK hD hN hX (fun _ _ _ => rfl) rfl rfl) rfl rfl hl.1 rfl (lv_room (Nat.le_of_ble_eq_true rfl)) dX3_setWait_2 ⟨Nat.le_of_ble_eq_true rfl, Nat.le_of_ble_eq_true rfl⟩) htab hlocks (fun E h => Or.inl h) (by decide) (by decide) (fun h_2 => ?_)
  have h_2 : 0 ≤ x0.toInt ∧ x0.toInt < rc := h_2
  refine lv_iload_n hx hb dX3_setWait_5 rfl (lv_at hl 2 rfl) ?_
  refine q_xv (vx_runS (As := [.int (x1)]) (rest := []) ⟨hx, hb, hml, hown, hts⟩ (c_X3_demandWait l D cI cZ cQ cL hfl b0 (x1) s.heap.size ) (va_cwS 1 hts gX3_setWait_X3_demandWait rfl rfl rfl hd_X3_demandWait ⟨Nat.le_of_ble_eq_true rfl, Nat.le_of_ble_eq_true rfl⟩) (P0X_s hX (fun _ _ _ => rfl)) rfl rfl hl.1 rfl (lv_room (Nat.le_of_ble_eq_true rfl)) dX3_setWait_6 ⟨Nat.le_of_ble_eq_true rfl, Nat.le_of_ble_eq_true rfl⟩) htab hlocks (fun E h => Or.inr ⟨h.1, h_2, h.2⟩) (by decide) (by decide) (fun h_6 => ?_)
  have h_6 : 0 ≤ x1.toInt ∧ x1.toInt ≤ 20 := h_6
  have ht_x0 := tn_i (x := x0) (by omega)
  have ht_x1 := tn_i (x := x1) (by omega)
  refine lv_aload_n hx hb dX3_setWait_9 rfl (lv_at hl 0 rfl) ?_
  refine va_get (D := D) (ci := 2) (v := .ref (ad 2)) (C := RX3) (T := TX3) (N := 13) hx hb hts iwX3_setWait_X3 hown hK hP 0 rfl rfl 7 (by decide) (hts (.fieldLink RX3 20 "RepairSender" "waits" "[I") (List.mem_of_getElem? (i := 1) rfl)) (fun _ h9 => h9) rfl dX3_setWait_10 ?_
  refine lv_iload_n hx hb dX3_setWait_13 rfl (lv_at hl 1 rfl) ?_
  refine q_top (show (x0) = nI (tn x0) from tn_I (by omega)) ?_
  refine q_iald (f := wai) (j := tn x0) hx hb hK hP 2 0 rfl rfl (by omega) (by decide) dX3_setWait_14 ?_
  refine lv_istore_n (lv' := [(3, .int (nI (wai (tn x0)))), (0, .ref (ad 0)), (1, .int (x0)), (2, .int (x1))]) hx hb dX3_setWait_15 rfl hl (by decide) rfl (fun ls hl => ?_)
  refine lv_aload_n hx hb dX3_setWait_16 rfl (lv_at hl 1 rfl) ?_
  refine va_get (D := D) (ci := 2) (v := .ref (ad 2)) (C := RX3) (T := TX3) (N := 13) hx hb hts iwX3_setWait_X3 hown hK hP 0 rfl rfl 7 (by decide) (hts (.fieldLink RX3 20 "RepairSender" "waits" "[I") (List.mem_of_getElem? (i := 1) rfl)) (fun _ h9 => h9) rfl dX3_setWait_17 ?_
  refine lv_iload_n hx hb dX3_setWait_20 rfl (lv_at hl 2 rfl) ?_
  refine q_top (show (x0) = nI (tn x0) from tn_I (by omega)) ?_
  refine lv_iload_n hx hb dX3_setWait_21 rfl (lv_at hl 3 rfl) ?_
  refine q_top (show (x1) = nI (tn x1) from tn_I (by omega)) ?_
  refine q_iast (f := wai) (j := tn x0) (y := tn x1) hx hb hK hP hD hS 2 0 rfl rfl (by omega) (by decide) dX3_setWait_22 (fun H locs hP hD hS => ?_)
  have hP : va_P D vwCl (wA cI cZ ad (pat) (sent) (rep) (kept) (rc) (los) (un wai (tn x0) (tn x1)) (set) (bad) (gon) (bk) (bp) (bv)) H := hP
  have hD : va_D A (wA cI cZ ad (pat) (sent) (rep) (kept) (rc) (los) (un wai (tn x0) (tn x1)) (set) (bad) (gon) (bk) (bp) (bv)) := hD
  refine lv_iload_n hx hb dX3_setWait_23 rfl (lv_at hl 0 rfl) ?_
  refine vx_ret ?_
  have hP : va_P D vwCl (wA cI cZ ad (pat) (sent) (rep) (kept) (rc) (los) (un wai (tn x0) (tn x1)) (set) (bad) (gon) (bk) (bp) (bv)) H := hP
  have hD : va_D A (wA cI cZ ad (pat) (sent) (rep) (kept) (rc) (los) (un wai (tn x0) (tn x1)) (set) (bad) (gon) (bk) (bp) (bv)) := hD
  exact W.iret (v := nI (wai (tn x0))) hx hb hr (fun t ht hW => ⟨⟨_, (), rfl, (by exact ⟨rfl, h_2, h_6⟩), by rw [ht]; exact hP, hD⟩, hS.F ht⟩) hS.2.2 dX3_setWait_24

theorem htX3_send_51 : ∀ w ∈ (vx_atS RX3 51 "java/lang/IllegalArgumentException" ["java/lang/RuntimeException", "java/lang/Exception"]).filter goodWord, w ∈ wsX3_send := by decide +kernel
theorem iwX3_send_X3 : ∀ w ∈ wsX30, w ∈ wsX3_send := by decide +kernel
theorem htX3_send_74 : ∀ w ∈ (vx_atS RX3 74 "java/lang/IllegalStateException" ["java/lang/RuntimeException", "java/lang/Exception"]).filter goodWord, w ∈ wsX3_send := by decide +kernel
set_option maxHeartbeats 4000000 in
set_option maxRecDepth 100000 in
theorem c_X3_send (l : Launch) (D : va_G) (cI cZ cQ cL : ClassId) (hfl : l.stackTraces = false) (b0 : Nat) (ad : Nat → Nat) (pat : Nat) (sent : Nat) (rep : Nat) (kept : Nat) (rc : Nat) (los : Nat → Nat) (wai : Nat → Nat) (set : Nat → Nat) (bad : Nat → Nat) (gon : Nat → Nat) (bk : Nat) (bp : Nat → B8) (bv : Nat → B8) (x0 : Int32) (sz : Nat) (hrc : rc ≤ 6) (hlos : ∀ r, r < 6 → los r ≤ 2047) (hset : ∀ r, r < 6 → set r < 65536) (hgon : ∀ r, r < 6 → gon r ≤ 1) (hbk : bk ≤ 8) (hse : sent ≤ 10000) : vx_Met l yX3_send wsX3_send ({ frames := 6, cells := 1, slots := 6, locals := 96 } : Room) (PX b0 D (TY cI cZ cQ cL) (wA cI cZ ad (pat) (sent) (rep) (kept) (rc) (los) (wai) (set) (bad) (gon) (bk) (bp) (bv)) sz [.ref (ad 0), .int (x0)]) (QI D (va_A (wA cI cZ ad (pat) (sent) (rep) (kept) (rc) (los) (wai) (set) (bad) (gon) (bk) (bp) (bv)) sz) (fun z9 (_ : Unit) => z9 = nI (ccn bk (sndM rc sent los gon set (tn x0)) gon rc) ∧ ((1 ≤ x0.toInt ∧ x0.toInt ≤ 16) ∧ (sent : Int) + x0.toInt ≤ 10000)) (fun _ => (wA cI cZ ad (pat) (sent + tn x0) (rep) (kept) (rc) (los) (wai) (sndM rc sent los gon set (tn x0)) (bad) (gon) (bk) (bp) (bv)))) (XC (fun E => (E = "java/lang/IllegalArgumentException" ∧ ¬ (1 ≤ x0.toInt ∧ x0.toInt ≤ 16)) ∨ (E = "java/lang/IllegalStateException" ∧ (1 ≤ x0.toInt ∧ x0.toInt ≤ 16) ∧ ¬ ((sent : Int) + x0.toInt ≤ 10000)))) 1 6 (va_A (wA cI cZ ad (pat) (sent) (rep) (kept) (rc) (los) (wai) (set) (bad) (gon) (bk) (bp) (bv)) sz) := by
  refine vx_ofW (cc := cX3_send) (maxL := 2) (ret := (some .int)) (by decide) rfl ?_
  intro p e s m args below meth c s₁ B hml htab hv
  obtain ⟨rfl, hsz, hP, hK, hD0, hN, hX⟩ := hv
  have hx := B.exec
  have hb := B.bytes
  have hr := B.returns
  have hts := atoms_spec (ws := wsX3_send) B.pre
  have hown : s.vm.findClass RX3 = some m.cls := findClass_of_methodNamed B.named
  have hlocks := B.notSynchronized
  subst hsz
  have hD := hD0.self (sz := s.heap.size)
  generalize hAe : va_A (wA cI cZ ad (pat) (sent) (rep) (kept) (rc) (los) (wai) (set) (bad) (gon) (bk) (bp) (bv)) s.heap.size = A at hD ⊢
  have hA : ∀ q : Nat, s.heap.size ≤ q → A q := fun q h => by rw [← hAe]; exact Or.inr h
  have hS : va_S A s.heap s.heap [] := va_S.rf
  have hl := lv_entry ([.ref (ad 0), .int (x0)]) (n := 2) (Nat.le_of_ble_eq_true rfl)
  rw [lg_entry_eq]
  generalize (lg_sl ([.ref (ad 0), .int (x0)]) ++ List.replicate (2 - (lg_sl ([.ref (ad 0), .int (x0)])).length) Slot.unset).toArray = ls at hl ⊢
  have hl : lv_has ls 2 [(0, .ref (ad 0)), (1, .int (x0))] := hl
  refine lv_iload_n hx hb dX3_send_0 rfl (lv_at hl 1 rfl) ?_
  refine lv_iconst (v := nI (1)) hx hb dX3_send_1 (by decide) ?_
  refine q_icmp_lt (u := (x0).toInt) (v := ((1 : Nat) : Int)) (tgt := 11) hx hb dX3_send_2 (by decide) (rfl) (nI_toInt (by omega)) (fun c_2 => ?_) (fun c_2 => ?_)
  · skip
    exact q_throw (b0 := b0) (text := "many is not 1 to 16") (Ts := wsX3_send) hx hb hfl hown (by decide +kernel) hts (List.mem_of_getElem? (i := 1) rfl) (List.mem_of_getElem? (i := 2) rfl) hX (List.mem_of_getElem? (i := 13) rfl) htX3_send_51 vx_bad_51 vx_good_51 (hl.1.trans hml.symm) dX3_send_11 dX3_send_14 dX3_send_15 dX3_send_17 dX3_send_20 htab (by decide) (by decide) (by decide) (by decide) hlocks (Or.inl ⟨rfl, by omega⟩) (by decide) (by decide)
  · skip
    refine lv_iload_n hx hb dX3_send_5 rfl (lv_at hl 1 rfl) ?_
    refine lv_bipush (v := nI (16)) hx hb dX3_send_6 (by decide) ?_
    refine q_icmp_le (u := (x0).toInt) (v := ((16 : Nat) : Int)) (tgt := 21) hx hb dX3_send_8 (by decide) (rfl) (nI_toInt (by omega)) (fun c_8 => ?_) (fun c_8 => ?_)
    · skip
      have ht_x0 := tn_i (x := x0) (by omega)
      refine lv_aload_n hx hb dX3_send_21 rfl (lv_at hl 0 rfl) ?_
      refine va_get (D := D) (ci := 2) (v := .int (nI (sent))) (C := RX3) (T := TX3) (N := 13) hx hb hts iwX3_send_X3 hown hK hP 0 rfl rfl 2 (by decide) (hts (.fieldLink RX3 56 "RepairSender" "sentCount" "I") (List.mem_of_getElem? (i := 5) rfl)) (fun _ h9 => h9) rfl dX3_send_22 ?_
      refine lv_iload_n hx hb dX3_send_25 rfl (lv_at hl 1 rfl) ?_
      refine q_top (show (x0) = nI (tn x0) from tn_I (by omega)) ?_
      refine lv_iadd hx hb dX3_send_26 ?_
      refine q_top (show (nI (sent) + nI (tn x0)) = nI (sent + tn x0) from nI_add _ _) ?_
      refine lv_sipush (v := nI (10000)) hx hb dX3_send_27 (by decide) ?_
      refine q_icmp_le (u := ((sent + tn x0 : Nat) : Int)) (v := ((10000 : Nat) : Int)) (tgt := 43) hx hb dX3_send_30 (by decide) (nI_toInt (by omega)) (nI_toInt (by omega)) (fun c_30 => ?_) (fun c_30 => ?_)
      · skip
        refine lv_aload_n hx hb dX3_send_43 rfl (lv_at hl 0 rfl) ?_
        refine lv_iload_n hx hb dX3_send_44 rfl (lv_at hl 1 rfl) ?_
        refine q_top (show (x0) = nI (tn x0) from tn_I (by omega)) ?_
        have hPc : va_P D vwCl (wA cI cZ ad (pat) (sent) (rep) (kept) (rc) (los) (wai) (set) (bad) (gon) (bk) (bp) (bv)) s.heap := hP
        refine q_cv (wc := (wA cI cZ ad (pat) (sent) (rep) (kept) (rc) (los) (wai) (set) (bad) (gon) (bk) (bp) (bv))) (wr := []) (w1 := fun _ => (wA cI cZ ad (pat) (sent + (tn x0)) (rep) (kept) (rc) (los) (wai) (sndM rc sent los gon set (tn x0)) (bad) (gon) (bk) (bp) (bv))) (va_runV (As := [.int (nI (tn x0))]) (rest := []) ⟨hx, hb, hml, hown, hts⟩ (c_X3_sendPackets l D cI cZ cQ cL (ad) (pat) (sent) (rep) (kept) (rc) (los) (wai) (set) (bad) (gon) (bk) (bp) (bv) (tn x0) s.heap.size (hrc) (by omega) (hlos) (hgon) (hset)) (cwV 1 hts gX3_send_X3_sendPackets rfl rfl rfl ⟨rfl, hd_X3_sendPackets⟩ ⟨Nat.le_of_ble_eq_true rfl, Nat.le_of_ble_eq_true rfl⟩) (PW_v (q := (RX3, TX3, 13)) (ci := 2) (q0 := 0) hPc hK hD hN rfl rfl) rfl rfl hl.1 rfl (lv_room (Nat.le_of_ble_eq_true rfl)) dX3_send_45 ⟨Nat.le_of_ble_eq_true rfl, Nat.le_of_ble_eq_true rfl⟩) hP hD hS hA [0, 1, 2, 3, 4, 5, 6, 7, 8] [] rfl rfl (by decide) (by decide) (fun u_45 H locs h_45 hP hD hS => ?_)
        have hP : va_P D vwCl (wA cI cZ ad (pat) (sent + (tn x0)) (rep) (kept) (rc) (los) (wai) (sndM rc sent los gon set (tn x0)) (bad) (gon) (bk) (bp) (bv)) H := hP
        have hD : va_D A (wA cI cZ ad (pat) (sent + (tn x0)) (rep) (kept) (rc) (los) (wai) (sndM rc sent los gon set (tn x0)) (bad) (gon) (bk) (bp) (bv)) := hD
        refine lv_aload_n hx hb dX3_send_48 rfl (lv_at hl 0 rfl) ?_
        have hPc : va_P D vwCl (wA cI cZ ad (pat) ((sent + (tn x0))) (rep) (kept) (rc) (los) (wai) ((sndM rc sent los gon set (tn x0))) (bad) (gon) (bk) (bp) (bv)) H := hP
        refine q_csi (va_runV (As := []) (rest := []) ⟨hx, hb, hml, hown, hts⟩ (c_X3_completeCount l D cI cZ cQ cL (ad) (pat) (sent + (tn x0)) (rep) (kept) (rc) (los) (wai) (sndM rc sent los gon set (tn x0)) (bad) (gon) (bk) (bp) (bv) H.size (hrc) (sndM_lt hset _) (hbk) (hgon)) (cwV 0 hts gX3_send_X3_completeCount rfl rfl rfl ⟨rfl, hd_X3_completeCount⟩ ⟨Nat.le_of_ble_eq_true rfl, Nat.le_of_ble_eq_true rfl⟩) (PW_v (q := (RX3, TX3, 13)) (ci := 2) (q0 := 0) hPc hK hD hN rfl rfl) rfl rfl hl.1 rfl (lv_room (Nat.le_of_ble_eq_true rfl)) dX3_send_49 ⟨Nat.le_of_ble_eq_true rfl, Nat.le_of_ble_eq_true rfl⟩) (fun r_49 hr_49 => ?_)
        obtain rfl : r_49 = nI (ccn bk (sndM rc sent los gon set (tn x0)) gon rc) := hr_49
        refine W.widen (k := 1) (n := 6) (by decide) (by decide) ?_
        refine vx_ret ?_
        have hP : va_P D vwCl (wA cI cZ ad (pat) (sent + tn x0) (rep) (kept) (rc) (los) (wai) (sndM rc sent los gon set (tn x0)) (bad) (gon) (bk) (bp) (bv)) H := hP
        have hD : va_D A (wA cI cZ ad (pat) (sent + tn x0) (rep) (kept) (rc) (los) (wai) (sndM rc sent los gon set (tn x0)) (bad) (gon) (bk) (bp) (bv)) := hD
        exact W.iret (v := nI (ccn bk (sndM rc sent los gon set (tn x0)) gon rc)) hx hb hr (fun t ht hW => ⟨⟨_, (), rfl, (by exact ⟨rfl, by omega, by omega⟩), by rw [ht]; exact hP, hD⟩, hS.F ht⟩) hS.2.2 dX3_send_52
      · skip
        exact q_throw (b0 := b0) (text := "more than 10000 packets would have been sent") (Ts := wsX3_send) hx hb hfl hown (by decide +kernel) hts (List.mem_of_getElem? (i := 3) rfl) (List.mem_of_getElem? (i := 4) rfl) hX (List.mem_of_getElem? (i := 14) rfl) htX3_send_74 vx_bad_74 vx_good_74 (hl.1.trans hml.symm) dX3_send_33 dX3_send_36 dX3_send_37 dX3_send_39 dX3_send_42 htab (by decide) (by decide) (by decide) (by decide) hlocks (Or.inr ⟨rfl, by omega, by omega⟩) (by decide) (by decide)
    · skip
      exact q_throw (b0 := b0) (text := "many is not 1 to 16") (Ts := wsX3_send) hx hb hfl hown (by decide +kernel) hts (List.mem_of_getElem? (i := 1) rfl) (List.mem_of_getElem? (i := 2) rfl) hX (List.mem_of_getElem? (i := 13) rfl) htX3_send_51 vx_bad_51 vx_good_51 (hl.1.trans hml.symm) dX3_send_11 dX3_send_14 dX3_send_15 dX3_send_17 dX3_send_20 htab (by decide) (by decide) (by decide) (by decide) hlocks (Or.inl ⟨rfl, by omega⟩) (by decide) (by decide)

theorem iwX3_round_X3 : ∀ w ∈ wsX30, w ∈ wsX3_round := by decide +kernel
theorem htX3_round_74 : ∀ w ∈ (vx_atS RX3 74 "java/lang/IllegalStateException" ["java/lang/RuntimeException", "java/lang/Exception"]).filter goodWord, w ∈ wsX3_round := by decide +kernel
set_option maxHeartbeats 4000000 in
set_option maxRecDepth 100000 in
theorem c_X3_round (l : Launch) (D : va_G) (cI cZ cQ cL : ClassId) (hfl : l.stackTraces = false) (b0 : Nat) (ad : Nat → Nat) (pat : Nat) (sent : Nat) (rep : Nat) (kept : Nat) (rc : Nat) (los : Nat → Nat) (wai : Nat → Nat) (set : Nat → Nat) (bad : Nat → Nat) (gon : Nat → Nat) (bk : Nat) (bp : Nat → B8) (bv : Nat → B8) (sz : Nat) (hrc : rc ≤ 6) (hlos : ∀ r, r < 6 → los r ≤ 2047) (hwai : ∀ r, r < 6 → wai r ≤ 20) (hset : ∀ r, r < 6 → set r < 65536) (hbad : ∀ r, r < 6 → bad r ≤ 20) (hgon : ∀ r, r < 6 → gon r ≤ 1) (hbk : bk ≤ 8) (hpa : pat ≤ 20) (hse : sent ≤ 10000) : vx_Met l yX3_round wsX3_round ({ frames := 6, cells := 1, slots := 6, locals := 109 } : Room) (PX b0 D (TY cI cZ cQ cL) (wA cI cZ ad (pat) (sent) (rep) (kept) (rc) (los) (wai) (set) (bad) (gon) (bk) (bp) (bv)) sz [.ref (ad 0)]) (QI D (va_A (wA cI cZ ad (pat) (sent) (rep) (kept) (rc) (los) (wai) (set) (bad) (gon) (bk) (bp) (bv)) sz) (fun z9 (_ : Unit) => z9 = nI (rnH (ndf bk set gon) wai rc 21) ∧ (sent ≤ 9992)) (fun _ => (wA cI cZ ad (pat) (sent + rnH (ndf bk set gon) wai rc 21) (rep + rnR (ndf bk set gon) wai rc 21) (kept + rnK (ndf bk set gon) wai rc 21) (rc) (los) (wai) (sndM rc sent los gon set (rnH (ndf bk set gon) wai rc 21)) (bdB rc bk (sndM rc sent los gon set (rnH (ndf bk set gon) wai rc 21)) gon bad) (bdG rc bk pat (sndM rc sent los gon set (rnH (ndf bk set gon) wai rc 21)) gon bad) (bk) (bp) (bv)))) (XC (fun E => E = "java/lang/IllegalStateException" ∧ ¬ (sent ≤ 9992))) 1 6 (va_A (wA cI cZ ad (pat) (sent) (rep) (kept) (rc) (los) (wai) (set) (bad) (gon) (bk) (bp) (bv)) sz) := by
  refine vx_ofW (cc := cX3_round) (maxL := 2) (ret := (some .int)) (by decide) rfl ?_
  intro p e s m args below meth c s₁ B hml htab hv
  obtain ⟨rfl, hsz, hP, hK, hD0, hN, hX⟩ := hv
  have hx := B.exec
  have hb := B.bytes
  have hr := B.returns
  have hts := atoms_spec (ws := wsX3_round) B.pre
  have hown : s.vm.findClass RX3 = some m.cls := findClass_of_methodNamed B.named
  have hlocks := B.notSynchronized
  subst hsz
  have hD := hD0.self (sz := s.heap.size)
  generalize hAe : va_A (wA cI cZ ad (pat) (sent) (rep) (kept) (rc) (los) (wai) (set) (bad) (gon) (bk) (bp) (bv)) s.heap.size = A at hD ⊢
  have hA : ∀ q : Nat, s.heap.size ≤ q → A q := fun q h => by rw [← hAe]; exact Or.inr h
  have hS : va_S A s.heap s.heap [] := va_S.rf
  have hl := lv_entry ([.ref (ad 0)]) (n := 2) (Nat.le_of_ble_eq_true rfl)
  rw [lg_entry_eq]
  generalize (lg_sl ([.ref (ad 0)]) ++ List.replicate (2 - (lg_sl ([.ref (ad 0)])).length) Slot.unset).toArray = ls at hl ⊢
  have hl : lv_has ls 2 [(0, .ref (ad 0))] := hl
  have hg8 : rnH (ndf bk set gon) wai rc 21 ≤ 8 := rnH_le (fun r _ => Nat.le_trans (ndf_le bk set gon r) hbk) 21
  refine lv_aload_n hx hb dX3_round_0 rfl (lv_at hl 0 rfl) ?_
  refine va_get (D := D) (ci := 2) (v := .int (nI (sent))) (C := RX3) (T := TX3) (N := 13) hx hb hts iwX3_round_X3 hown hK hP 0 rfl rfl 2 (by decide) (hts (.fieldLink RX3 56 "RepairSender" "sentCount" "I") (List.mem_of_getElem? (i := 3) rfl)) (fun _ h9 => h9) rfl dX3_round_1 ?_
  refine lv_sipush (v := nI (9992)) hx hb dX3_round_4 (by decide) ?_
  refine q_icmp_le (u := ((sent : Nat) : Int)) (v := ((9992 : Nat) : Int)) (tgt := 20) hx hb dX3_round_7 (by decide) (nI_toInt (by omega)) (nI_toInt (by omega)) (fun c_7 => ?_) (fun c_7 => ?_)
  · skip
    refine lv_aload_n hx hb dX3_round_20 rfl (lv_at hl 0 rfl) ?_
    have hPc : va_P D vwCl (wA cI cZ ad (pat) (sent) (rep) (kept) (rc) (los) (wai) (set) (bad) (gon) (bk) (bp) (bv)) s.heap := hP
    refine q_ci (wc := (wA cI cZ ad (pat) (sent) (rep) (kept) (rc) (los) (wai) (set) (bad) (gon) (bk) (bp) (bv))) (wr := []) (w1 := fun _ => (wA cI cZ ad (pat) (sent) (rep + rnR (ndf bk set gon) wai rc 21) (kept + rnK (ndf bk set gon) wai rc 21) (rc) (los) (wai) (set) (bad) (gon) (bk) (bp) (bv))) (va_runV (As := []) (rest := []) ⟨hx, hb, hml, hown, hts⟩ (c_X3_hearReports l D cI cZ cQ cL (ad) (pat) (sent) (rep) (kept) (rc) (los) (wai) (set) (bad) (gon) (bk) (bp) (bv) s.heap.size (hrc) (hwai) (hset) (hbk) (hgon)) (cwV 0 hts gX3_round_X3_hearReports rfl rfl rfl ⟨rfl, hd_X3_hearReports⟩ ⟨Nat.le_of_ble_eq_true rfl, Nat.le_of_ble_eq_true rfl⟩) (PW_v (q := (RX3, TX3, 13)) (ci := 2) (q0 := 0) hPc hK hD hN rfl rfl) rfl rfl hl.1 rfl (lv_room (Nat.le_of_ble_eq_true rfl)) dX3_round_21 ⟨Nat.le_of_ble_eq_true rfl, Nat.le_of_ble_eq_true rfl⟩) hP hD hS hA [0, 1, 2, 3, 4, 5, 6, 7, 8] [] rfl rfl (by decide) (by decide) (fun r_21 u_21 H locs h_21 hP hD hS => ?_)
    have hP : va_P D vwCl (wA cI cZ ad (pat) (sent) (rep + rnR (ndf bk set gon) wai rc 21) (kept + rnK (ndf bk set gon) wai rc 21) (rc) (los) (wai) (set) (bad) (gon) (bk) (bp) (bv)) H := hP
    have hD : va_D A (wA cI cZ ad (pat) (sent) (rep + rnR (ndf bk set gon) wai rc 21) (kept + rnK (ndf bk set gon) wai rc 21) (rc) (los) (wai) (set) (bad) (gon) (bk) (bp) (bv)) := hD
    obtain rfl : r_21 = nI (rnH (ndf bk set gon) wai rc 21) := h_21
    refine lv_istore_n (lv' := [(1, .int (nI (rnH (ndf bk set gon) wai rc 21))), (0, .ref (ad 0))]) hx hb dX3_round_24 rfl hl (by decide) rfl (fun ls hl => ?_)
    refine lv_aload_n hx hb dX3_round_25 rfl (lv_at hl 1 rfl) ?_
    refine lv_iload_n hx hb dX3_round_26 rfl (lv_at hl 0 rfl) ?_
    have hPc : va_P D vwCl (wA cI cZ ad (pat) (sent) ((rep + rnR (ndf bk set gon) wai rc 21)) ((kept + rnK (ndf bk set gon) wai rc 21)) (rc) (los) (wai) (set) (bad) (gon) (bk) (bp) (bv)) H := hP
    refine q_cv (wc := (wA cI cZ ad (pat) (sent) ((rep + rnR (ndf bk set gon) wai rc 21)) ((kept + rnK (ndf bk set gon) wai rc 21)) (rc) (los) (wai) (set) (bad) (gon) (bk) (bp) (bv))) (wr := []) (w1 := fun _ => (wA cI cZ ad (pat) (sent + (rnH (ndf bk set gon) wai rc 21)) ((rep + rnR (ndf bk set gon) wai rc 21)) ((kept + rnK (ndf bk set gon) wai rc 21)) (rc) (los) (wai) (sndM rc sent los gon set (rnH (ndf bk set gon) wai rc 21)) (bad) (gon) (bk) (bp) (bv))) (va_runV (As := [.int (nI (rnH (ndf bk set gon) wai rc 21))]) (rest := []) ⟨hx, hb, hml, hown, hts⟩ (c_X3_sendPackets l D cI cZ cQ cL (ad) (pat) (sent) (rep + rnR (ndf bk set gon) wai rc 21) (kept + rnK (ndf bk set gon) wai rc 21) (rc) (los) (wai) (set) (bad) (gon) (bk) (bp) (bv) (rnH (ndf bk set gon) wai rc 21) H.size (hrc) (by omega) (hlos) (hgon) (hset)) (cwV 1 hts gX3_round_X3_sendPackets rfl rfl rfl ⟨rfl, hd_X3_sendPackets⟩ ⟨Nat.le_of_ble_eq_true rfl, Nat.le_of_ble_eq_true rfl⟩) (PW_v (q := (RX3, TX3, 13)) (ci := 2) (q0 := 0) hPc hK hD hN rfl rfl) rfl rfl hl.1 rfl (lv_room (Nat.le_of_ble_eq_true rfl)) dX3_round_27 ⟨Nat.le_of_ble_eq_true rfl, Nat.le_of_ble_eq_true rfl⟩) hP hD hS hA [0, 1, 2, 3, 4, 5, 6, 7, 8] [] rfl rfl (by decide) (by decide) (fun u_27 H locs h_27 hP hD hS => ?_)
    have hP : va_P D vwCl (wA cI cZ ad (pat) (sent + (rnH (ndf bk set gon) wai rc 21)) ((rep + rnR (ndf bk set gon) wai rc 21)) ((kept + rnK (ndf bk set gon) wai rc 21)) (rc) (los) (wai) (sndM rc sent los gon set (rnH (ndf bk set gon) wai rc 21)) (bad) (gon) (bk) (bp) (bv)) H := hP
    have hD : va_D A (wA cI cZ ad (pat) (sent + (rnH (ndf bk set gon) wai rc 21)) ((rep + rnR (ndf bk set gon) wai rc 21)) ((kept + rnK (ndf bk set gon) wai rc 21)) (rc) (los) (wai) (sndM rc sent los gon set (rnH (ndf bk set gon) wai rc 21)) (bad) (gon) (bk) (bp) (bv)) := hD
    refine lv_aload_n hx hb dX3_round_30 rfl (lv_at hl 1 rfl) ?_
    have hPc : va_P D vwCl (wA cI cZ ad (pat) ((sent + (rnH (ndf bk set gon) wai rc 21))) (((rep + rnR (ndf bk set gon) wai rc 21))) (((kept + rnK (ndf bk set gon) wai rc 21))) (rc) (los) (wai) ((sndM rc sent los gon set (rnH (ndf bk set gon) wai rc 21))) (bad) (gon) (bk) (bp) (bv)) H := hP
    refine q_cv (wc := (wA cI cZ ad (pat) ((sent + (rnH (ndf bk set gon) wai rc 21))) (((rep + rnR (ndf bk set gon) wai rc 21))) (((kept + rnK (ndf bk set gon) wai rc 21))) (rc) (los) (wai) ((sndM rc sent los gon set (rnH (ndf bk set gon) wai rc 21))) (bad) (gon) (bk) (bp) (bv))) (wr := []) (w1 := fun _ => (wA cI cZ ad (pat) ((sent + (rnH (ndf bk set gon) wai rc 21))) (((rep + rnR (ndf bk set gon) wai rc 21))) (((kept + rnK (ndf bk set gon) wai rc 21))) (rc) (los) (wai) ((sndM rc sent los gon set (rnH (ndf bk set gon) wai rc 21))) (bdB rc bk (sndM rc sent los gon set (rnH (ndf bk set gon) wai rc 21)) gon bad) (bdG rc bk pat (sndM rc sent los gon set (rnH (ndf bk set gon) wai rc 21)) gon bad) (bk) (bp) (bv))) (va_runV (As := []) (rest := []) ⟨hx, hb, hml, hown, hts⟩ (c_X3_countBadRounds l D cI cZ cQ cL (ad) (pat) (sent + (rnH (ndf bk set gon) wai rc 21)) ((rep + rnR (ndf bk set gon) wai rc 21)) ((kept + rnK (ndf bk set gon) wai rc 21)) (rc) (los) (wai) (sndM rc sent los gon set (rnH (ndf bk set gon) wai rc 21)) (bad) (gon) (bk) (bp) (bv) H.size (hrc) (sndM_lt hset _) (hbk) (hgon) (hbad) (hpa)) (cwV 0 hts gX3_round_X3_countBadRounds rfl rfl rfl ⟨rfl, hd_X3_countBadRounds⟩ ⟨Nat.le_of_ble_eq_true rfl, Nat.le_of_ble_eq_true rfl⟩) (PW_v (q := (RX3, TX3, 13)) (ci := 2) (q0 := 0) hPc hK hD hN rfl rfl) rfl rfl hl.1 rfl (lv_room (Nat.le_of_ble_eq_true rfl)) dX3_round_31 ⟨Nat.le_of_ble_eq_true rfl, Nat.le_of_ble_eq_true rfl⟩) hP hD hS hA [0, 1, 2, 3, 4, 5, 6, 7, 8] [] rfl rfl (by decide) (by decide) (fun u_31 H locs h_31 hP hD hS => ?_)
    have hP : va_P D vwCl (wA cI cZ ad (pat) ((sent + (rnH (ndf bk set gon) wai rc 21))) (((rep + rnR (ndf bk set gon) wai rc 21))) (((kept + rnK (ndf bk set gon) wai rc 21))) (rc) (los) (wai) ((sndM rc sent los gon set (rnH (ndf bk set gon) wai rc 21))) (bdB rc bk (sndM rc sent los gon set (rnH (ndf bk set gon) wai rc 21)) gon bad) (bdG rc bk pat (sndM rc sent los gon set (rnH (ndf bk set gon) wai rc 21)) gon bad) (bk) (bp) (bv)) H := hP
    have hD : va_D A (wA cI cZ ad (pat) ((sent + (rnH (ndf bk set gon) wai rc 21))) (((rep + rnR (ndf bk set gon) wai rc 21))) (((kept + rnK (ndf bk set gon) wai rc 21))) (rc) (los) (wai) ((sndM rc sent los gon set (rnH (ndf bk set gon) wai rc 21))) (bdB rc bk (sndM rc sent los gon set (rnH (ndf bk set gon) wai rc 21)) gon bad) (bdG rc bk pat (sndM rc sent los gon set (rnH (ndf bk set gon) wai rc 21)) gon bad) (bk) (bp) (bv)) := hD
    refine lv_iload_n hx hb dX3_round_34 rfl (lv_at hl 0 rfl) ?_
    refine W.widen (k := 1) (n := 6) (by decide) (by decide) ?_
    refine vx_ret ?_
    have hP : va_P D vwCl (wA cI cZ ad (pat) (sent + rnH (ndf bk set gon) wai rc 21) (rep + rnR (ndf bk set gon) wai rc 21) (kept + rnK (ndf bk set gon) wai rc 21) (rc) (los) (wai) (sndM rc sent los gon set (rnH (ndf bk set gon) wai rc 21)) (bdB rc bk (sndM rc sent los gon set (rnH (ndf bk set gon) wai rc 21)) gon bad) (bdG rc bk pat (sndM rc sent los gon set (rnH (ndf bk set gon) wai rc 21)) gon bad) (bk) (bp) (bv)) H := hP
    have hD : va_D A (wA cI cZ ad (pat) (sent + rnH (ndf bk set gon) wai rc 21) (rep + rnR (ndf bk set gon) wai rc 21) (kept + rnK (ndf bk set gon) wai rc 21) (rc) (los) (wai) (sndM rc sent los gon set (rnH (ndf bk set gon) wai rc 21)) (bdB rc bk (sndM rc sent los gon set (rnH (ndf bk set gon) wai rc 21)) gon bad) (bdG rc bk pat (sndM rc sent los gon set (rnH (ndf bk set gon) wai rc 21)) gon bad) (bk) (bp) (bv)) := hD
    exact W.iret (v := nI (rnH (ndf bk set gon) wai rc 21)) hx hb hr (fun t ht hW => ⟨⟨_, (), rfl, (by exact ⟨rfl, by omega⟩), by rw [ht]; exact hP, hD⟩, hS.F ht⟩) hS.2.2 dX3_round_35
  · skip
    exact q_throw (b0 := b0) (text := "more than 9992 packets have been sent") (Ts := wsX3_round) hx hb hfl hown (by decide +kernel) hts (List.mem_of_getElem? (i := 1) rfl) (List.mem_of_getElem? (i := 2) rfl) hX (List.mem_of_getElem? (i := 0) rfl) htX3_round_74 vx_bad_74 vx_good_74 (hl.1.trans hml.symm) dX3_round_10 dX3_round_13 dX3_round_14 dX3_round_16 dX3_round_19 htab (by decide) (by decide) (by decide) (by decide) hlocks (by first | exact ⟨rfl, by omega⟩ | omega) (by decide) (by decide)

theorem iwX3_sent_X3 : ∀ w ∈ wsX30, w ∈ wsX3_sent := by decide +kernel
set_option maxHeartbeats 4000000 in
set_option maxRecDepth 100000 in
theorem c_X3_sent (l : Launch) (D : va_G) (cI cZ cQ cL : ClassId) (ad : Nat → Nat) (pat : Nat) (sent : Nat) (rep : Nat) (kept : Nat) (rc : Nat) (los : Nat → Nat) (wai : Nat → Nat) (set : Nat → Nat) (bad : Nat → Nat) (gon : Nat → Nat) (bk : Nat) (bp : Nat → B8) (bv : Nat → B8) (sz : Nat) : Met l yX3_sent wsX3_sent ({ frames := 0, cells := 0, slots := 0, locals := 0 } : Room) (PW D (TY cI cZ cQ cL) (wA cI cZ ad (pat) (sent) (rep) (kept) (rc) (los) (wai) (set) (bad) (gon) (bk) (bp) (bv)) sz [.ref (ad 0)]) (vp_Si (fun z9 => z9 = nI (sent))) 0 0 (fun _ => False) := by
  refine Met.ofW (cc := cX3_sent) (maxL := 1) (ret := (some .int)) (by decide) rfl ?_
  intro p e s m args below meth c s₁ B hml hv
  obtain ⟨rfl, hsz, hP, hK, hD0, hN⟩ := hv
  have hx := B.exec
  have hb := B.bytes
  have hr := B.returns
  have hts := atoms_spec (ws := wsX3_sent) B.pre
  have hown : s.vm.findClass RX3 = some m.cls := findClass_of_methodNamed B.named
  have hlocks := B.notSynchronized
  subst hsz
  have hD := hD0
  have hl := lv_entry ([.ref (ad 0)]) (n := 1) (Nat.le_of_ble_eq_true rfl)
  rw [lg_entry_eq]
  generalize (lg_sl ([.ref (ad 0)]) ++ List.replicate (1 - (lg_sl ([.ref (ad 0)])).length) Slot.unset).toArray = ls at hl ⊢
  have hl : lv_has ls 1 [(0, .ref (ad 0))] := hl
  refine lv_aload_n hx hb dX3_sent_0 rfl (lv_at hl 0 rfl) ?_
  refine va_get (D := D) (ci := 2) (v := .int (nI (sent))) (C := RX3) (T := TX3) (N := 13) hx hb hts iwX3_sent_X3 hown hK hP 0 rfl rfl 2 (by decide) (hts (.fieldLink RX3 56 "RepairSender" "sentCount" "I") (List.mem_of_getElem? (i := 1) rfl)) (fun _ h9 => h9) rfl dX3_sent_1 ?_
  exact W.iret (v := nI (sent)) hx hb hr (fun t ht hW => ⟨_, rfl, (by rfl), ht⟩) (fun q h => by cases h) dX3_sent_4

theorem iwX3_receivers_X3 : ∀ w ∈ wsX30, w ∈ wsX3_receivers := by decide +kernel
set_option maxHeartbeats 4000000 in
set_option maxRecDepth 100000 in
theorem c_X3_receivers (l : Launch) (D : va_G) (cI cZ cQ cL : ClassId) (ad : Nat → Nat) (pat : Nat) (sent : Nat) (rep : Nat) (kept : Nat) (rc : Nat) (los : Nat → Nat) (wai : Nat → Nat) (set : Nat → Nat) (bad : Nat → Nat) (gon : Nat → Nat) (bk : Nat) (bp : Nat → B8) (bv : Nat → B8) (sz : Nat) : Met l yX3_receivers wsX3_receivers ({ frames := 0, cells := 0, slots := 0, locals := 0 } : Room) (PW D (TY cI cZ cQ cL) (wA cI cZ ad (pat) (sent) (rep) (kept) (rc) (los) (wai) (set) (bad) (gon) (bk) (bp) (bv)) sz [.ref (ad 0)]) (vp_Si (fun z9 => z9 = nI (rc))) 0 0 (fun _ => False) := by
  refine Met.ofW (cc := cX3_receivers) (maxL := 1) (ret := (some .int)) (by decide) rfl ?_
  intro p e s m args below meth c s₁ B hml hv
  obtain ⟨rfl, hsz, hP, hK, hD0, hN⟩ := hv
  have hx := B.exec
  have hb := B.bytes
  have hr := B.returns
  have hts := atoms_spec (ws := wsX3_receivers) B.pre
  have hown : s.vm.findClass RX3 = some m.cls := findClass_of_methodNamed B.named
  have hlocks := B.notSynchronized
  subst hsz
  have hD := hD0
  have hl := lv_entry ([.ref (ad 0)]) (n := 1) (Nat.le_of_ble_eq_true rfl)
  rw [lg_entry_eq]
  generalize (lg_sl ([.ref (ad 0)]) ++ List.replicate (1 - (lg_sl ([.ref (ad 0)])).length) Slot.unset).toArray = ls at hl ⊢
  have hl : lv_has ls 1 [(0, .ref (ad 0))] := hl
  refine lv_aload_n hx hb dX3_receivers_0 rfl (lv_at hl 0 rfl) ?_
  refine va_get (D := D) (ci := 2) (v := .int (nI (rc))) (C := RX3) (T := TX3) (N := 13) hx hb hts iwX3_receivers_X3 hown hK hP 0 rfl rfl 5 (by decide) (hts (.fieldLink RX3 84 "RepairSender" "receiverCount" "I") (List.mem_of_getElem? (i := 1) rfl)) (fun _ h9 => h9) rfl dX3_receivers_1 ?_
  exact W.iret (v := nI (rc)) hx hb hr (fun t ht hW => ⟨_, rfl, (by rfl), ht⟩) (fun q h => by cases h) dX3_receivers_4

theorem iwX3_reports_X3 : ∀ w ∈ wsX30, w ∈ wsX3_reports := by decide +kernel
set_option maxHeartbeats 4000000 in
set_option maxRecDepth 100000 in
theorem c_X3_reports (l : Launch) (D : va_G) (cI cZ cQ cL : ClassId) (ad : Nat → Nat) (pat : Nat) (sent : Nat) (rep : Nat) (kept : Nat) (rc : Nat) (los : Nat → Nat) (wai : Nat → Nat) (set : Nat → Nat) (bad : Nat → Nat) (gon : Nat → Nat) (bk : Nat) (bp : Nat → B8) (bv : Nat → B8) (sz : Nat) : Met l yX3_reports wsX3_reports ({ frames := 0, cells := 0, slots := 0, locals := 0 } : Room) (PW D (TY cI cZ cQ cL) (wA cI cZ ad (pat) (sent) (rep) (kept) (rc) (los) (wai) (set) (bad) (gon) (bk) (bp) (bv)) sz [.ref (ad 0)]) (vp_Si (fun z9 => z9 = nI (rep))) 0 0 (fun _ => False) := by
  refine Met.ofW (cc := cX3_reports) (maxL := 1) (ret := (some .int)) (by decide) rfl ?_
  intro p e s m args below meth c s₁ B hml hv
  obtain ⟨rfl, hsz, hP, hK, hD0, hN⟩ := hv
  have hx := B.exec
  have hb := B.bytes
  have hr := B.returns
  have hts := atoms_spec (ws := wsX3_reports) B.pre
  have hown : s.vm.findClass RX3 = some m.cls := findClass_of_methodNamed B.named
  have hlocks := B.notSynchronized
  subst hsz
  have hD := hD0
  have hl := lv_entry ([.ref (ad 0)]) (n := 1) (Nat.le_of_ble_eq_true rfl)
  rw [lg_entry_eq]
  generalize (lg_sl ([.ref (ad 0)]) ++ List.replicate (1 - (lg_sl ([.ref (ad 0)])).length) Slot.unset).toArray = ls at hl ⊢
  have hl : lv_has ls 1 [(0, .ref (ad 0))] := hl
  refine lv_aload_n hx hb dX3_reports_0 rfl (lv_at hl 0 rfl) ?_
  refine va_get (D := D) (ci := 2) (v := .int (nI (rep))) (C := RX3) (T := TX3) (N := 13) hx hb hts iwX3_reports_X3 hown hK hP 0 rfl rfl 3 (by decide) (hts (.fieldLink RX3 111 "RepairSender" "reportCount" "I") (List.mem_of_getElem? (i := 1) rfl)) (fun _ h9 => h9) rfl dX3_reports_1 ?_
  exact W.iret (v := nI (rep)) hx hb hr (fun t ht hW => ⟨_, rfl, (by rfl), ht⟩) (fun q h => by cases h) dX3_reports_4

theorem iwX3_keptBack_X3 : ∀ w ∈ wsX30, w ∈ wsX3_keptBack := by decide +kernel
set_option maxHeartbeats 4000000 in
set_option maxRecDepth 100000 in
theorem c_X3_keptBack (l : Launch) (D : va_G) (cI cZ cQ cL : ClassId) (ad : Nat → Nat) (pat : Nat) (sent : Nat) (rep : Nat) (kept : Nat) (rc : Nat) (los : Nat → Nat) (wai : Nat → Nat) (set : Nat → Nat) (bad : Nat → Nat) (gon : Nat → Nat) (bk : Nat) (bp : Nat → B8) (bv : Nat → B8) (sz : Nat) : Met l yX3_keptBack wsX3_keptBack ({ frames := 0, cells := 0, slots := 0, locals := 0 } : Room) (PW D (TY cI cZ cQ cL) (wA cI cZ ad (pat) (sent) (rep) (kept) (rc) (los) (wai) (set) (bad) (gon) (bk) (bp) (bv)) sz [.ref (ad 0)]) (vp_Si (fun z9 => z9 = nI (kept))) 0 0 (fun _ => False) := by
  refine Met.ofW (cc := cX3_keptBack) (maxL := 1) (ret := (some .int)) (by decide) rfl ?_
  intro p e s m args below meth c s₁ B hml hv
  obtain ⟨rfl, hsz, hP, hK, hD0, hN⟩ := hv
  have hx := B.exec
  have hb := B.bytes
  have hr := B.returns
  have hts := atoms_spec (ws := wsX3_keptBack) B.pre
  have hown : s.vm.findClass RX3 = some m.cls := findClass_of_methodNamed B.named
  have hlocks := B.notSynchronized
  subst hsz
  have hD := hD0
  have hl := lv_entry ([.ref (ad 0)]) (n := 1) (Nat.le_of_ble_eq_true rfl)
  rw [lg_entry_eq]
  generalize (lg_sl ([.ref (ad 0)]) ++ List.replicate (1 - (lg_sl ([.ref (ad 0)])).length) Slot.unset).toArray = ls at hl ⊢
  have hl : lv_has ls 1 [(0, .ref (ad 0))] := hl
  refine lv_aload_n hx hb dX3_keptBack_0 rfl (lv_at hl 0 rfl) ?_
  refine va_get (D := D) (ci := 2) (v := .int (nI (kept))) (C := RX3) (T := TX3) (N := 13) hx hb hts iwX3_keptBack_X3 hown hK hP 0 rfl rfl 4 (by decide) (hts (.fieldLink RX3 114 "RepairSender" "keptBackCount" "I") (List.mem_of_getElem? (i := 1) rfl)) (fun _ h9 => h9) rfl dX3_keptBack_1 ?_
  exact W.iret (v := nI (kept)) hx hb hr (fun t ht hW => ⟨_, rfl, (by rfl), ht⟩) (fun q h => by cases h) dX3_keptBack_4

theorem iwX3_has_X3 : ∀ w ∈ wsX30, w ∈ wsX3_has := by decide +kernel
set_option maxHeartbeats 4000000 in
set_option maxRecDepth 100000 in
theorem c_X3_has (l : Launch) (D : va_G) (cI cZ cQ cL : ClassId) (hfl : l.stackTraces = false) (b0 : Nat) (ad : Nat → Nat) (pat : Nat) (sent : Nat) (rep : Nat) (kept : Nat) (rc : Nat) (los : Nat → Nat) (wai : Nat → Nat) (set : Nat → Nat) (bad : Nat → Nat) (gon : Nat → Nat) (bk : Nat) (bp : Nat → B8) (bv : Nat → B8) (x0 : Int32) (sz : Nat) (hrc : rc ≤ 6) (hgon : ∀ r, r < 6 → gon r ≤ 1) : vx_Met l yX3_has wsX3_has ({ frames := 7, cells := 1, slots := 6, locals := 117 } : Room) (PX b0 D (TY cI cZ cQ cL) (wA cI cZ ad (pat) (sent) (rep) (kept) (rc) (los) (wai) (set) (bad) (gon) (bk) (bp) (bv)) sz [.ref (ad 0), .int (x0)]) (vp_Si (fun z9 => z9 = nI (set (tn x0)) ∧ (0 ≤ x0.toInt ∧ x0.toInt < rc))) (XC (fun E => E = "java/lang/IndexOutOfBoundsException" ∧ ¬ (0 ≤ x0.toInt ∧ x0.toInt < rc))) 1 6 (fun _ => False) := by
  refine vx_ofW (cc := cX3_has) (maxL := 2) (ret := (some .int)) (by decide) rfl ?_
  intro p e s m args below meth c s₁ B hml htab hv
  obtain ⟨rfl, hsz, hP, hK, hD0, hN, hX⟩ := hv
  have hx := B.exec
  have hb := B.bytes
  have hr := B.returns
  have hts := atoms_spec (ws := wsX3_has) B.pre
  have hown : s.vm.findClass RX3 = some m.cls := findClass_of_methodNamed B.named
  have hlocks := B.notSynchronized
  subst hsz
  have hD := hD0
  have hl := lv_entry ([.ref (ad 0), .int (x0)]) (n := 2) (Nat.le_of_ble_eq_true rfl)
  rw [lg_entry_eq]
  generalize (lg_sl ([.ref (ad 0), .int (x0)]) ++ List.replicate (2 - (lg_sl ([.ref (ad 0), .int (x0)])).length) Slot.unset).toArray = ls at hl ⊢
  have hl : lv_has ls 2 [(0, .ref (ad 0)), (1, .int (x0))] := hl
  refine lv_aload_n hx hb dX3_has_0 rfl (lv_at hl 0 rfl) ?_
  refine lv_iload_n hx hb dX3_has_1 rfl (lv_at hl 1 rfl) ?_
  have hPc : va_P D vwCl (wA cI cZ ad (pat) (sent) (rep) (kept) (rc) (los) (wai) (set) (bad) (gon) (bk) (bp) (bv)) s.heap := hP
  refine q_xv (vx_runV (As := [.int (x0)]) (rest := []) ⟨hx, hb, hml, hown, hts⟩ (c_X3_demandReceiver l D cI cZ cQ cL hfl b0 (ad) (pat) (sent) (rep) (kept) (rc) (los) (wai) (set) (bad) (gon) (bk) (bp) (bv) (x0) s.heap.size (hrc)) (cwV 1 hts gX3_has_X3_demandReceiver rfl rfl rfl ⟨rfl, hd_X3_demandReceiver⟩ ⟨Nat.le_of_ble_eq_true rfl, Nat.le_of_ble_eq_true rfl⟩) (PX_v (q := (RX3, TX3, 13)) (ci := 2) (q0 := 0) hPc hK hD hN hX (fun _ _ _ => rfl) rfl rfl) rfl rfl hl.1 rfl (lv_room (Nat.le_of_ble_eq_true rfl)) dX3_has_2 ⟨Nat.le_of_ble_eq_true rfl, Nat.le_of_ble_eq_true rfl⟩) htab hlocks (fun E h => by first | exact h | (obtain ⟨h1, h2⟩ := h; exact ⟨h1, by omega⟩)) (by decide) (by decide) (fun h_2 => ?_)
  have h_2 : 0 ≤ x0.toInt ∧ x0.toInt < rc := h_2
  have ht_x0 := tn_i (x := x0) (by omega)
  refine lv_aload_n hx hb dX3_has_5 rfl (lv_at hl 0 rfl) ?_
  refine va_get (D := D) (ci := 2) (v := .ref (ad 3)) (C := RX3) (T := TX3) (N := 13) hx hb hts iwX3_has_X3 hown hK hP 0 rfl rfl 8 (by decide) (hts (.fieldLink RX3 23 "RepairSender" "packetSets" "[I") (List.mem_of_getElem? (i := 1) rfl)) (fun _ h9 => h9) rfl dX3_has_6 ?_
  refine lv_iload_n hx hb dX3_has_9 rfl (lv_at hl 1 rfl) ?_
  refine q_top (show (x0) = nI (tn x0) from tn_I (by omega)) ?_
  refine q_iald (f := set) (j := tn x0) hx hb hK hP 3 0 rfl rfl (by omega) (by decide) dX3_has_10 ?_
  refine vx_ret ?_
  exact W.iret (v := nI (set (tn x0))) hx hb hr (fun t ht hW => ⟨_, rfl, (by exact ⟨rfl, h_2⟩), ht⟩) (fun q h => by cases h) dX3_has_11

theorem iwX3_badRounds_X3 : ∀ w ∈ wsX30, w ∈ wsX3_badRounds := by decide +kernel
set_option maxHeartbeats 4000000 in
set_option maxRecDepth 100000 in
theorem c_X3_badRounds (l : Launch) (D : va_G) (cI cZ cQ cL : ClassId) (hfl : l.stackTraces = false) (b0 : Nat) (ad : Nat → Nat) (pat : Nat) (sent : Nat) (rep : Nat) (kept : Nat) (rc : Nat) (los : Nat → Nat) (wai : Nat → Nat) (set : Nat → Nat) (bad : Nat → Nat) (gon : Nat → Nat) (bk : Nat) (bp : Nat → B8) (bv : Nat → B8) (x0 : Int32) (sz : Nat) (hrc : rc ≤ 6) (hgon : ∀ r, r < 6 → gon r ≤ 1) : vx_Met l yX3_badRounds wsX3_badRounds ({ frames := 7, cells := 1, slots := 6, locals := 117 } : Room) (PX b0 D (TY cI cZ cQ cL) (wA cI cZ ad (pat) (sent) (rep) (kept) (rc) (los) (wai) (set) (bad) (gon) (bk) (bp) (bv)) sz [.ref (ad 0), .int (x0)]) (vp_Si (fun z9 => z9 = nI (bad (tn x0)) ∧ (0 ≤ x0.toInt ∧ x0.toInt < rc))) (XC (fun E => E = "java/lang/IndexOutOfBoundsException" ∧ ¬ (0 ≤ x0.toInt ∧ x0.toInt < rc))) 1 6 (fun _ => False) := by
  refine vx_ofW (cc := cX3_badRounds) (maxL := 2) (ret := (some .int)) (by decide) rfl ?_
  intro p e s m args below meth c s₁ B hml htab hv
  obtain ⟨rfl, hsz, hP, hK, hD0, hN, hX⟩ := hv
  have hx := B.exec
  have hb := B.bytes
  have hr := B.returns
  have hts := atoms_spec (ws := wsX3_badRounds) B.pre
  have hown : s.vm.findClass RX3 = some m.cls := findClass_of_methodNamed B.named
  have hlocks := B.notSynchronized
  subst hsz
  have hD := hD0
  have hl := lv_entry ([.ref (ad 0), .int (x0)]) (n := 2) (Nat.le_of_ble_eq_true rfl)
  rw [lg_entry_eq]
  generalize (lg_sl ([.ref (ad 0), .int (x0)]) ++ List.replicate (2 - (lg_sl ([.ref (ad 0), .int (x0)])).length) Slot.unset).toArray = ls at hl ⊢
  have hl : lv_has ls 2 [(0, .ref (ad 0)), (1, .int (x0))] := hl
  refine lv_aload_n hx hb dX3_badRounds_0 rfl (lv_at hl 0 rfl) ?_
  refine lv_iload_n hx hb dX3_badRounds_1 rfl (lv_at hl 1 rfl) ?_
  have hPc : va_P D vwCl (wA cI cZ ad (pat) (sent) (rep) (kept) (rc) (los) (wai) (set) (bad) (gon) (bk) (bp) (bv)) s.heap := hP
  refine q_xv (vx_runV (As := [.int (x0)]) (rest := []) ⟨hx, hb, hml, hown, hts⟩ (c_X3_demandReceiver l D cI cZ cQ cL hfl b0 (ad) (pat) (sent) (rep) (kept) (rc) (los) (wai) (set) (bad) (gon) (bk) (bp) (bv) (x0) s.heap.size (hrc)) (cwV 1 hts gX3_badRounds_X3_demandReceiver rfl rfl rfl ⟨rfl, hd_X3_demandReceiver⟩ ⟨Nat.le_of_ble_eq_true rfl, Nat.le_of_ble_eq_true rfl⟩) (PX_v (q := (RX3, TX3, 13)) (ci := 2) (q0 := 0) hPc hK hD hN hX (fun _ _ _ => rfl) rfl rfl) rfl rfl hl.1 rfl (lv_room (Nat.le_of_ble_eq_true rfl)) dX3_badRounds_2 ⟨Nat.le_of_ble_eq_true rfl, Nat.le_of_ble_eq_true rfl⟩) htab hlocks (fun E h => by first | exact h | (obtain ⟨h1, h2⟩ := h; exact ⟨h1, by omega⟩)) (by decide) (by decide) (fun h_2 => ?_)
  have h_2 : 0 ≤ x0.toInt ∧ x0.toInt < rc := h_2
  have ht_x0 := tn_i (x := x0) (by omega)
  refine lv_aload_n hx hb dX3_badRounds_5 rfl (lv_at hl 0 rfl) ?_
  refine va_get (D := D) (ci := 2) (v := .ref (ad 4)) (C := RX3) (T := TX3) (N := 13) hx hb hts iwX3_badRounds_X3 hown hK hP 0 rfl rfl 9 (by decide) (hts (.fieldLink RX3 26 "RepairSender" "badCounts" "[I") (List.mem_of_getElem? (i := 1) rfl)) (fun _ h9 => h9) rfl dX3_badRounds_6 ?_
  refine lv_iload_n hx hb dX3_badRounds_9 rfl (lv_at hl 1 rfl) ?_
  refine q_top (show (x0) = nI (tn x0) from tn_I (by omega)) ?_
  refine q_iald (f := bad) (j := tn x0) hx hb hK hP 4 0 rfl rfl (by omega) (by decide) dX3_badRounds_10 ?_
  refine vx_ret ?_
  exact W.iret (v := nI (bad (tn x0))) hx hb hr (fun t ht hW => ⟨_, rfl, (by exact ⟨rfl, h_2⟩), ht⟩) (fun q h => by cases h) dX3_badRounds_11

theorem iwX3_isDropped_X3 : ∀ w ∈ wsX30, w ∈ wsX3_isDropped := by decide +kernel
set_option maxHeartbeats 4000000 in
set_option maxRecDepth 100000 in
theorem c_X3_isDropped (l : Launch) (D : va_G) (cI cZ cQ cL : ClassId) (hfl : l.stackTraces = false) (b0 : Nat) (ad : Nat → Nat) (pat : Nat) (sent : Nat) (rep : Nat) (kept : Nat) (rc : Nat) (los : Nat → Nat) (wai : Nat → Nat) (set : Nat → Nat) (bad : Nat → Nat) (gon : Nat → Nat) (bk : Nat) (bp : Nat → B8) (bv : Nat → B8) (x0 : Int32) (sz : Nat) (hrc : rc ≤ 6) (hgon : ∀ r, r < 6 → gon r ≤ 1) : vx_Met l yX3_isDropped wsX3_isDropped ({ frames := 7, cells := 1, slots := 6, locals := 117 } : Room) (PX b0 D (TY cI cZ cQ cL) (wA cI cZ ad (pat) (sent) (rep) (kept) (rc) (los) (wai) (set) (bad) (gon) (bk) (bp) (bv)) sz [.ref (ad 0), .int (x0)]) (vp_Si (fun z9 => z9 = nI (gon (tn x0)) ∧ (0 ≤ x0.toInt ∧ x0.toInt < rc))) (XC (fun E => E = "java/lang/IndexOutOfBoundsException" ∧ ¬ (0 ≤ x0.toInt ∧ x0.toInt < rc))) 1 6 (fun _ => False) := by
  refine vx_ofW (cc := cX3_isDropped) (maxL := 2) (ret := (some .boolean)) (by decide) rfl ?_
  intro p e s m args below meth c s₁ B hml htab hv
  obtain ⟨rfl, hsz, hP, hK, hD0, hN, hX⟩ := hv
  have hx := B.exec
  have hb := B.bytes
  have hr := B.returns
  have hts := atoms_spec (ws := wsX3_isDropped) B.pre
  have hown : s.vm.findClass RX3 = some m.cls := findClass_of_methodNamed B.named
  have hlocks := B.notSynchronized
  subst hsz
  have hD := hD0
  have hl := lv_entry ([.ref (ad 0), .int (x0)]) (n := 2) (Nat.le_of_ble_eq_true rfl)
  rw [lg_entry_eq]
  generalize (lg_sl ([.ref (ad 0), .int (x0)]) ++ List.replicate (2 - (lg_sl ([.ref (ad 0), .int (x0)])).length) Slot.unset).toArray = ls at hl ⊢
  have hl : lv_has ls 2 [(0, .ref (ad 0)), (1, .int (x0))] := hl
  refine lv_aload_n hx hb dX3_isDropped_0 rfl (lv_at hl 0 rfl) ?_
  refine lv_iload_n hx hb dX3_isDropped_1 rfl (lv_at hl 1 rfl) ?_
  have hPc : va_P D vwCl (wA cI cZ ad (pat) (sent) (rep) (kept) (rc) (los) (wai) (set) (bad) (gon) (bk) (bp) (bv)) s.heap := hP
  refine q_xv (vx_runV (As := [.int (x0)]) (rest := []) ⟨hx, hb, hml, hown, hts⟩ (c_X3_demandReceiver l D cI cZ cQ cL hfl b0 (ad) (pat) (sent) (rep) (kept) (rc) (los) (wai) (set) (bad) (gon) (bk) (bp) (bv) (x0) s.heap.size (hrc)) (cwV 1 hts gX3_isDropped_X3_demandReceiver rfl rfl rfl ⟨rfl, hd_X3_demandReceiver⟩ ⟨Nat.le_of_ble_eq_true rfl, Nat.le_of_ble_eq_true rfl⟩) (PX_v (q := (RX3, TX3, 13)) (ci := 2) (q0 := 0) hPc hK hD hN hX (fun _ _ _ => rfl) rfl rfl) rfl rfl hl.1 rfl (lv_room (Nat.le_of_ble_eq_true rfl)) dX3_isDropped_2 ⟨Nat.le_of_ble_eq_true rfl, Nat.le_of_ble_eq_true rfl⟩) htab hlocks (fun E h => by first | exact h | (obtain ⟨h1, h2⟩ := h; exact ⟨h1, by omega⟩)) (by decide) (by decide) (fun h_2 => ?_)
  have h_2 : 0 ≤ x0.toInt ∧ x0.toInt < rc := h_2
  have ht_x0 := tn_i (x := x0) (by omega)
  refine lv_aload_n hx hb dX3_isDropped_5 rfl (lv_at hl 0 rfl) ?_
  refine va_get (D := D) (ci := 2) (v := .ref (ad 5)) (C := RX3) (T := TX3) (N := 13) hx hb hts iwX3_isDropped_X3 hown hK hP 0 rfl rfl 10 (by decide) (hts (.fieldLink RX3 29 "RepairSender" "dropped" "[Z") (List.mem_of_getElem? (i := 1) rfl)) (fun _ h9 => h9) rfl dX3_isDropped_6 ?_
  refine lv_iload_n hx hb dX3_isDropped_9 rfl (lv_at hl 1 rfl) ?_
  refine q_top (show (x0) = nI (tn x0) from tn_I (by omega)) ?_
  refine q_zald (f := gon) (j := tn x0) hx hb hK hP 5 1 rfl rfl (by omega) (by decide) dX3_isDropped_10 ?_
  refine vx_ret ?_
  exact W.zret (v := nI (gon (tn x0))) hx hb hr (q_narZ _ (hgon _ (by omega))) (fun t ht hW => ⟨_, rfl, (by exact ⟨rfl, h_2⟩), ht⟩) (fun q h => by cases h) dX3_isDropped_11

set_option maxHeartbeats 4000000 in
set_option maxRecDepth 100000 in
theorem c_X3_need (l : Launch) (D : va_G) (cI cZ cQ cL : ClassId) (hfl : l.stackTraces = false) (b0 : Nat) (ad : Nat → Nat) (pat : Nat) (sent : Nat) (rep : Nat) (kept : Nat) (rc : Nat) (los : Nat → Nat) (wai : Nat → Nat) (set : Nat → Nat) (bad : Nat → Nat) (gon : Nat → Nat) (bk : Nat) (bp : Nat → B8) (bv : Nat → B8) (x0 : Int32) (sz : Nat) (hrc : rc ≤ 6) (hset : ∀ r, r < 6 → set r < 65536) (hbk : bk ≤ 8) : vx_Met l yX3_need wsX3_need ({ frames := 7, cells := 1, slots := 6, locals := 117 } : Room) (PX b0 D (TY cI cZ cQ cL) (wA cI cZ ad (pat) (sent) (rep) (kept) (rc) (los) (wai) (set) (bad) (gon) (bk) (bp) (bv)) sz [.ref (ad 0), .int (x0)]) (vp_Si (fun z9 => z9 = nI (bk - pc (set (tn x0))) ∧ (0 ≤ x0.toInt ∧ x0.toInt < rc))) (XC (fun E => E = "java/lang/IndexOutOfBoundsException" ∧ ¬ (0 ≤ x0.toInt ∧ x0.toInt < rc))) 1 6 (fun _ => False) := by
  refine vx_ofW (cc := cX3_need) (maxL := 2) (ret := (some .int)) (by decide) rfl ?_
  intro p e s m args below meth c s₁ B hml htab hv
  obtain ⟨rfl, hsz, hP, hK, hD0, hN, hX⟩ := hv
  have hx := B.exec
  have hb := B.bytes
  have hr := B.returns
  have hts := atoms_spec (ws := wsX3_need) B.pre
  have hown : s.vm.findClass RX3 = some m.cls := findClass_of_methodNamed B.named
  have hlocks := B.notSynchronized
  subst hsz
  have hD := hD0
  have hl := lv_entry ([.ref (ad 0), .int (x0)]) (n := 2) (Nat.le_of_ble_eq_true rfl)
  rw [lg_entry_eq]
  generalize (lg_sl ([.ref (ad 0), .int (x0)]) ++ List.replicate (2 - (lg_sl ([.ref (ad 0), .int (x0)])).length) Slot.unset).toArray = ls at hl ⊢
  have hl : lv_has ls 2 [(0, .ref (ad 0)), (1, .int (x0))] := hl
  refine lv_aload_n hx hb dX3_need_0 rfl (lv_at hl 0 rfl) ?_
  refine lv_iload_n hx hb dX3_need_1 rfl (lv_at hl 1 rfl) ?_
  have hPc : va_P D vwCl (wA cI cZ ad (pat) (sent) (rep) (kept) (rc) (los) (wai) (set) (bad) (gon) (bk) (bp) (bv)) s.heap := hP
  refine q_xv (vx_runV (As := [.int (x0)]) (rest := []) ⟨hx, hb, hml, hown, hts⟩ (c_X3_demandReceiver l D cI cZ cQ cL hfl b0 (ad) (pat) (sent) (rep) (kept) (rc) (los) (wai) (set) (bad) (gon) (bk) (bp) (bv) (x0) s.heap.size (hrc)) (cwV 1 hts gX3_need_X3_demandReceiver rfl rfl rfl ⟨rfl, hd_X3_demandReceiver⟩ ⟨Nat.le_of_ble_eq_true rfl, Nat.le_of_ble_eq_true rfl⟩) (PX_v (q := (RX3, TX3, 13)) (ci := 2) (q0 := 0) hPc hK hD hN hX (fun _ _ _ => rfl) rfl rfl) rfl rfl hl.1 rfl (lv_room (Nat.le_of_ble_eq_true rfl)) dX3_need_2 ⟨Nat.le_of_ble_eq_true rfl, Nat.le_of_ble_eq_true rfl⟩) htab hlocks (fun E h => by first | exact h | (obtain ⟨h1, h2⟩ := h; exact ⟨h1, by omega⟩)) (by decide) (by decide) (fun h_2 => ?_)
  have h_2 : 0 ≤ x0.toInt ∧ x0.toInt < rc := h_2
  have ht_x0 := tn_i (x := x0) (by omega)
  refine lv_aload_n hx hb dX3_need_5 rfl (lv_at hl 0 rfl) ?_
  refine lv_iload_n hx hb dX3_need_6 rfl (lv_at hl 1 rfl) ?_
  refine q_top (show (x0) = nI (tn x0) from tn_I (by omega)) ?_
  have hPc : va_P D vwCl (wA cI cZ ad (pat) (sent) (rep) (kept) (rc) (los) (wai) (set) (bad) (gon) (bk) (bp) (bv)) s.heap := hP
  refine q_csi (va_runV (As := [.int (nI (tn x0))]) (rest := []) ⟨hx, hb, hml, hown, hts⟩ (c_X3_needOf l D cI cZ cQ cL (ad) (pat) (sent) (rep) (kept) (rc) (los) (wai) (set) (bad) (gon) (bk) (bp) (bv) (tn x0) s.heap.size (by omega) (hset) (hbk)) (cwV 1 hts gX3_need_X3_needOf rfl rfl rfl ⟨rfl, hd_X3_needOf⟩ ⟨Nat.le_of_ble_eq_true rfl, Nat.le_of_ble_eq_true rfl⟩) (PW_v (q := (RX3, TX3, 13)) (ci := 2) (q0 := 0) hPc hK hD hN rfl rfl) rfl rfl hl.1 rfl (lv_room (Nat.le_of_ble_eq_true rfl)) dX3_need_7 ⟨Nat.le_of_ble_eq_true rfl, Nat.le_of_ble_eq_true rfl⟩) (fun r_7 hr_7 => ?_)
  obtain rfl : r_7 = nI (bk - pc (set (tn x0))) := hr_7
  refine vx_ret ?_
  exact W.iret (v := nI (bk - pc (set (tn x0)))) hx hb hr (fun t ht hW => ⟨_, rfl, (by exact ⟨rfl, h_2⟩), ht⟩) (fun q h => by cases h) dX3_need_10

theorem htX3_times_51 : ∀ w ∈ (vx_atS RX3 51 "java/lang/IllegalArgumentException" ["java/lang/RuntimeException", "java/lang/Exception"]).filter goodWord, w ∈ wsX3_times := by decide +kernel
set_option maxHeartbeats 4000000 in
set_option maxRecDepth 100000 in
theorem c_X3_times (l : Launch) (D : va_G) (cI cZ cQ cL : ClassId) (hfl : l.stackTraces = false) (b0 : Nat) (ad : Nat → Nat) (pat : Nat) (sent : Nat) (rep : Nat) (kept : Nat) (rc : Nat) (los : Nat → Nat) (wai : Nat → Nat) (set : Nat → Nat) (bad : Nat → Nat) (gon : Nat → Nat) (bk : Nat) (bp : Nat → B8) (bv : Nat → B8) (x0 : Int32) (x1 : Int32) (sz : Nat) : vx_Met l yX3_times wsX3_times ({ frames := 6, cells := 1, slots := 6, locals := 96 } : Room) (PX b0 D (TY cI cZ cQ cL) (wA cI cZ ad (pat) (sent) (rep) (kept) (rc) (los) (wai) (set) (bad) (gon) (bk) (bp) (bv)) sz [.ref (ad 0), .int (x0), .int (x1)]) (vp_Si (fun z9 => z9 = bI (fm (BitVec.ofNat 8 (tn x0)) (BitVec.ofNat 8 (tn x1))) ∧ ((0 ≤ x0.toInt ∧ x0.toInt ≤ 255) ∧ (0 ≤ x1.toInt ∧ x1.toInt ≤ 255)))) (XC (fun E => E = "java/lang/IllegalArgumentException" ∧ ¬ ((0 ≤ x0.toInt ∧ x0.toInt ≤ 255) ∧ (0 ≤ x1.toInt ∧ x1.toInt ≤ 255)))) 1 6 (fun _ => False) := by
  refine vx_ofW (cc := cX3_times) (maxL := 3) (ret := (some .int)) (by decide) rfl ?_
  intro p e s m args below meth c s₁ B hml htab hv
  obtain ⟨rfl, hsz, hP, hK, hD0, hN, hX⟩ := hv
  have hx := B.exec
  have hb := B.bytes
  have hr := B.returns
  have hts := atoms_spec (ws := wsX3_times) B.pre
  have hown : s.vm.findClass RX3 = some m.cls := findClass_of_methodNamed B.named
  have hlocks := B.notSynchronized
  subst hsz
  have hD := hD0
  have hl := lv_entry ([.ref (ad 0), .int (x0), .int (x1)]) (n := 3) (Nat.le_of_ble_eq_true rfl)
  rw [lg_entry_eq]
  generalize (lg_sl ([.ref (ad 0), .int (x0), .int (x1)]) ++ List.replicate (3 - (lg_sl ([.ref (ad 0), .int (x0), .int (x1)])).length) Slot.unset).toArray = ls at hl ⊢
  have hl : lv_has ls 3 [(0, .ref (ad 0)), (1, .int (x0)), (2, .int (x1))] := hl
  refine lv_iload_n hx hb dX3_times_0 rfl (lv_at hl 1 rfl) ?_
  refine q_csi (va_runS (As := [.int (x0)]) (rest := []) ⟨hx, hb, hml, hown, hts⟩ (c_X3_isFieldNumber l (x0) ) (va_cwS 1 hts gX3_times_X3_isFieldNumber rfl rfl rfl hd_X3_isFieldNumber ⟨Nat.le_of_ble_eq_true rfl, Nat.le_of_ble_eq_true rfl⟩) P0_s rfl rfl hl.1 rfl (lv_room (Nat.le_of_ble_eq_true rfl)) dX3_times_1 ⟨Nat.le_of_ble_eq_true rfl, Nat.le_of_ble_eq_true rfl⟩) (fun r_1 hr_1 => ?_)
  rcases hr_1 with ⟨rfl, h_1⟩ | ⟨rfl, h_1⟩
  · have h_1 : 0 ≤ x0.toInt ∧ x0.toInt ≤ 255 := h_1
    refine q_if_eq (u := ((1 : Nat) : Int)) (tgt := 14) hx hb dX3_times_4 (by decide) (nI_toInt (by omega)) (fun c_4 => absurd c_4 (by decide)) (fun _ => ?_)
    refine lv_iload_n hx hb dX3_times_7 rfl (lv_at hl 2 rfl) ?_
    refine q_csi (va_runS (As := [.int (x1)]) (rest := []) ⟨hx, hb, hml, hown, hts⟩ (c_X3_isFieldNumber l (x1) ) (va_cwS 1 hts gX3_times_X3_isFieldNumber rfl rfl rfl hd_X3_isFieldNumber ⟨Nat.le_of_ble_eq_true rfl, Nat.le_of_ble_eq_true rfl⟩) P0_s rfl rfl hl.1 rfl (lv_room (Nat.le_of_ble_eq_true rfl)) dX3_times_8 ⟨Nat.le_of_ble_eq_true rfl, Nat.le_of_ble_eq_true rfl⟩) (fun r_8 hr_8 => ?_)
    rcases hr_8 with ⟨rfl, h_8⟩ | ⟨rfl, h_8⟩
    · have h_8 : 0 ≤ x1.toInt ∧ x1.toInt ≤ 255 := h_8
      refine q_if_ne (u := ((1 : Nat) : Int)) (tgt := 24) hx hb dX3_times_11 (by decide) (nI_toInt (by omega)) (fun _ => ?_) (fun c_11 => absurd c_11 (by decide))
      have ht_x0 := tn_i (x := x0) (by omega)
      have ht_x1 := tn_i (x := x1) (by omega)
      refine lv_iload_n hx hb dX3_times_24 rfl (lv_at hl 1 rfl) ?_
      refine q_top (show (x0) = bI (BitVec.ofNat 8 (tn x0)) from tn_B (by omega) (by omega)) ?_
      refine lv_iload_n hx hb dX3_times_25 rfl (lv_at hl 2 rfl) ?_
      refine q_top (show (x1) = bI (BitVec.ofNat 8 (tn x1)) from tn_B (by omega) (by omega)) ?_
      refine q_csi (va_runSN (As := [.int (bI (BitVec.ofNat 8 (tn x0))), .int (bI (BitVec.ofNat 8 (tn x1)))]) (rest := []) ⟨hx, hb, hml, hown, hts⟩ (c_X1_product l (BitVec.ofNat 8 (tn x0)) (BitVec.ofNat 8 (tn x1)) ) ⟨va_cnB 2 hts gX3_times_X1_product_n123 rfl rfl rfl (hN _ (List.mem_of_getElem? (i := 9) rfl)) (hts (.initialized RX1) (List.mem_of_getElem? (i := 8) rfl)) hd_X1_product ⟨Nat.le_of_ble_eq_true rfl, Nat.le_of_ble_eq_true rfl⟩, (hts (.static yX1_product) (List.mem_of_getElem? (i := 7) rfl)), trivial⟩ P0_s rfl rfl hl.1 rfl (lv_room (Nat.le_of_ble_eq_true rfl)) dX3_times_26 ⟨Nat.le_of_ble_eq_true rfl, Nat.le_of_ble_eq_true rfl⟩) (fun r_26 hr_26 => ?_)
      obtain rfl : r_26 = bI (fm (BitVec.ofNat 8 (tn x0)) (BitVec.ofNat 8 (tn x1))) := hr_26
      refine W.widen (k := 1) (n := 6) (by decide) (by decide) ?_
      refine vx_ret ?_
      exact W.iret (v := bI (fm (BitVec.ofNat 8 (tn x0)) (BitVec.ofNat 8 (tn x1)))) hx hb hr (fun t ht hW => ⟨_, rfl, (by exact ⟨rfl, h_1, h_8⟩), ht⟩) (fun q h => by cases h) dX3_times_29
    · have h_8 : ¬ (0 ≤ x1.toInt ∧ x1.toInt ≤ 255) := h_8
      refine q_if_ne (u := ((0 : Nat) : Int)) (tgt := 24) hx hb dX3_times_11 (by decide) (nI_toInt (by omega)) (fun c_11 => absurd c_11 (by decide)) (fun _ => ?_)
      exact q_throw (b0 := b0) (text := "a or b is not 0 to 255") (Ts := wsX3_times) hx hb hfl hown (by decide +kernel) hts (List.mem_of_getElem? (i := 1) rfl) (List.mem_of_getElem? (i := 2) rfl) hX (List.mem_of_getElem? (i := 1) rfl) htX3_times_51 vx_bad_51 vx_good_51 (hl.1.trans hml.symm) dX3_times_14 dX3_times_17 dX3_times_18 dX3_times_20 dX3_times_23 htab (by decide) (by decide) (by decide) (by decide) hlocks (⟨rfl, by omega⟩) (by decide) (by decide)
  · have h_1 : ¬ (0 ≤ x0.toInt ∧ x0.toInt ≤ 255) := h_1
    refine q_if_eq (u := ((0 : Nat) : Int)) (tgt := 14) hx hb dX3_times_4 (by decide) (nI_toInt (by omega)) (fun _ => ?_) (fun c_4 => absurd c_4 (by decide))
    exact q_throw (b0 := b0) (text := "a or b is not 0 to 255") (Ts := wsX3_times) hx hb hfl hown (by decide +kernel) hts (List.mem_of_getElem? (i := 1) rfl) (List.mem_of_getElem? (i := 2) rfl) hX (List.mem_of_getElem? (i := 1) rfl) htX3_times_51 vx_bad_51 vx_good_51 (hl.1.trans hml.symm) dX3_times_14 dX3_times_17 dX3_times_18 dX3_times_20 dX3_times_23 htab (by decide) (by decide) (by decide) (by decide) hlocks (⟨rfl, by omega⟩) (by decide) (by decide)

theorem htX3_packet_133 : ∀ w ∈ (vx_atS RX3 133 "java/lang/IndexOutOfBoundsException" ["java/lang/RuntimeException", "java/lang/Exception"]).filter goodWord, w ∈ wsX3_packet := by decide +kernel
theorem iwX3_packet_X3 : ∀ w ∈ wsX30, w ∈ wsX3_packet := by decide +kernel
set_option maxHeartbeats 4000000 in
set_option maxRecDepth 100000 in
theorem c_X3_packet (l : Launch) (D : va_G) (cI cZ cQ cL : ClassId) (hfl : l.stackTraces = false) (b0 : Nat) (ad : Nat → Nat) (pat : Nat) (sent : Nat) (rep : Nat) (kept : Nat) (rc : Nat) (los : Nat → Nat) (wai : Nat → Nat) (set : Nat → Nat) (bad : Nat → Nat) (gon : Nat → Nat) (bk : Nat) (bp : Nat → B8) (bv : Nat → B8) (x0 : Int32) (sz : Nat) (hbk : bk ≤ 8) : vx_Met l yX3_packet wsX3_packet ({ frames := 6, cells := 1, slots := 6, locals := 96 } : Room) (PX b0 D (TY cI cZ cQ cL) (wA cI cZ ad (pat) (sent) (rep) (kept) (rc) (los) (wai) (set) (bad) (gon) (bk) (bp) (bv)) sz [.ref (ad 0), .int (x0)]) (vp_Si (fun z9 => z9 = bI (lag bk bp bv (BitVec.ofNat 8 (tn x0))) ∧ (0 ≤ x0.toInt ∧ x0.toInt ≤ 15))) (XC (fun E => E = "java/lang/IndexOutOfBoundsException" ∧ ¬ (0 ≤ x0.toInt ∧ x0.toInt ≤ 15))) 1 6 (fun _ => False) := by
  refine vx_ofW (cc := cX3_packet) (maxL := 2) (ret := (some .int)) (by decide) rfl ?_
  intro p e s m args below meth c s₁ B hml htab hv
  obtain ⟨rfl, hsz, hP, hK, hD0, hN, hX⟩ := hv
  have hx := B.exec
  have hb := B.bytes
  have hr := B.returns
  have hts := atoms_spec (ws := wsX3_packet) B.pre
  have hown : s.vm.findClass RX3 = some m.cls := findClass_of_methodNamed B.named
  have hlocks := B.notSynchronized
  subst hsz
  have hD := hD0
  have hl := lv_entry ([.ref (ad 0), .int (x0)]) (n := 2) (Nat.le_of_ble_eq_true rfl)
  rw [lg_entry_eq]
  generalize (lg_sl ([.ref (ad 0), .int (x0)]) ++ List.replicate (2 - (lg_sl ([.ref (ad 0), .int (x0)])).length) Slot.unset).toArray = ls at hl ⊢
  have hl : lv_has ls 2 [(0, .ref (ad 0)), (1, .int (x0))] := hl
  refine lv_iload_n hx hb dX3_packet_0 rfl (lv_at hl 1 rfl) ?_
  refine q_if_lt (u := (x0).toInt) (tgt := 10) hx hb dX3_packet_1 (by decide) (rfl) (fun c_1 => ?_) (fun c_1 => ?_)
  · skip
    exact q_throw (b0 := b0) (text := "no such packet") (Ts := wsX3_packet) hx hb hfl hown (by decide +kernel) hts (List.mem_of_getElem? (i := 1) rfl) (List.mem_of_getElem? (i := 2) rfl) hX (List.mem_of_getElem? (i := 2) rfl) htX3_packet_133 vx_bad_133 vx_good_133 (hl.1.trans hml.symm) dX3_packet_10 dX3_packet_13 dX3_packet_14 dX3_packet_16 dX3_packet_19 htab (by decide) (by decide) (by decide) (by decide) hlocks (⟨rfl, by omega⟩) (by decide) (by decide)
  · skip
    refine lv_iload_n hx hb dX3_packet_4 rfl (lv_at hl 1 rfl) ?_
    refine lv_bipush (v := nI (16)) hx hb dX3_packet_5 (by decide) ?_
    refine q_icmp_lt (u := (x0).toInt) (v := ((16 : Nat) : Int)) (tgt := 20) hx hb dX3_packet_7 (by decide) (rfl) (nI_toInt (by omega)) (fun c_7 => ?_) (fun c_7 => ?_)
    · skip
      have ht_x0 := tn_i (x := x0) (by omega)
      refine lv_aload_n hx hb dX3_packet_20 rfl (lv_at hl 0 rfl) ?_
      refine va_get (D := D) (ci := 2) (v := .ref (ad 6)) (C := RX3) (T := TX3) (N := 13) hx hb hts iwX3_packet_X3 hown hK hP 0 rfl rfl 0 (by decide) (hts (.fieldLink RX3 10 "RepairSender" "block" "LRepairSender$Points;") (List.mem_of_getElem? (i := 3) rfl)) (fun _ h9 => h9) rfl dX3_packet_21 ?_
      refine lv_iload_n hx hb dX3_packet_24 rfl (lv_at hl 1 rfl) ?_
      refine q_top (show (x0) = bI (BitVec.ofNat 8 (tn x0)) from tn_B (by omega) (by omega)) ?_
      have hPc := hP.sub (ws' := (wPt cI ((ad 6)) ((ad 7)) ((ad 8)) (bk) (bp) (bv))) [6, 7, 8] rfl
      have hDc := hD.sub (ws' := (wPt cI ((ad 6)) ((ad 7)) ((ad 8)) (bk) (bp) (bv))) [6, 7, 8] (by decide) rfl
      refine q_csi (va_runVN (As := [.int (bI (BitVec.ofNat 8 (tn x0)))]) (rest := []) ⟨hx, hb, hml, hown, hts⟩ (c_X2_polynomialAt l D cI cZ cQ cL (ad 6) (ad 7) (ad 8) (bk) (bp) (bv) (BitVec.ofNat 8 (tn x0)) s.heap.size (hbk)) ⟨va_cnB 1 hts gX3_packet_X2_polynomialAt_n134 rfl rfl rfl (hN _ (List.mem_of_getElem? (i := 10) rfl)) (hts (.initialized RX2) (List.mem_of_getElem? (i := 5) rfl)) hd_X2_polynomialAt ⟨Nat.le_of_ble_eq_true rfl, Nat.le_of_ble_eq_true rfl⟩, (hts (.instanceMethod yX2_polynomialAt) (List.mem_of_getElem? (i := 4) rfl)), (hts (.selects RX2 yX2_polynomialAt yX2_polynomialAt) (List.mem_of_getElem? (i := 6) rfl))⟩ (PW_v (q := (RX2, TX2, 3)) (ci := 1) (q0 := 0) hPc hK hDc hN rfl rfl) rfl rfl hl.1 rfl (lv_room (Nat.le_of_ble_eq_true rfl)) dX3_packet_25 ⟨Nat.le_of_ble_eq_true rfl, Nat.le_of_ble_eq_true rfl⟩) (fun r_25 hr_25 => ?_)
      obtain rfl : r_25 = bI (lag bk bp bv (BitVec.ofNat 8 (tn x0))) := hr_25
      refine W.widen (k := 1) (n := 6) (by decide) (by decide) ?_
      refine vx_ret ?_
      exact W.iret (v := bI (lag bk bp bv (BitVec.ofNat 8 (tn x0)))) hx hb hr (fun t ht hW => ⟨_, rfl, (by exact ⟨rfl, by omega⟩), ht⟩) (fun q h => by cases h) dX3_packet_28
    · skip
      exact q_throw (b0 := b0) (text := "no such packet") (Ts := wsX3_packet) hx hb hfl hown (by decide +kernel) hts (List.mem_of_getElem? (i := 1) rfl) (List.mem_of_getElem? (i := 2) rfl) hX (List.mem_of_getElem? (i := 2) rfl) htX3_packet_133 vx_bad_133 vx_good_133 (hl.1.trans hml.symm) dX3_packet_10 dX3_packet_13 dX3_packet_14 dX3_packet_16 dX3_packet_19 htab (by decide) (by decide) (by decide) (by decide) hlocks (⟨rfl, by omega⟩) (by decide) (by decide)
