theorem iwX3_sendNextPacket_X3 : ∀ w ∈ wsX30, w ∈ wsX3_sendNextPacket := by decide +kernel
set_option maxHeartbeats 4000000 in
set_option maxRecDepth 100000 in
theorem c_X3_sendNextPacket (l : Launch) (D : va_G) (cI cZ cQ cL : ClassId) (ad : Nat → Nat) (pat : Nat) (sent : Nat) (rep : Nat) (kept : Nat) (rc : Nat) (los : Nat → Nat) (wai : Nat → Nat) (set : Nat → Nat) (bad : Nat → Nat) (gon : Nat → Nat) (bk : Nat) (bp : Nat → B8) (bv : Nat → B8) (sz : Nat) (hrc : rc ≤ 6) (hse : sent < 2 ^ 30) (hlos : ∀ r, r < 6 → los r ≤ 2047) (hgon : ∀ r, r < 6 → gon r ≤ 1) (hset : ∀ r, r < 6 → set r < 65536) : Met l yX3_sendNextPacket wsX3_sendNextPacket ({ frames := 0, cells := 0, slots := 0, locals := 0 } : Room) (PW D (TY cI cZ cQ cL) (wA cI cZ ad (pat) (sent) (rep) (kept) (rc) (los) (wai) (set) (bad) (gon) (bk) (bp) (bv)) sz [.ref (ad 0)]) (QV D (va_A (wA cI cZ ad (pat) (sent) (rep) (kept) (rc) (los) (wai) (set) (bad) (gon) (bk) (bp) (bv)) sz) (fun (_ : Unit) => True) (fun _ => (wA cI cZ ad (pat) (sent + 1) (rep) (kept) (rc) (los) (wai) (snd1 rc sent los gon set) (bad) (gon) (bk) (bp) (bv)))) 0 0 (va_A (wA cI cZ ad (pat) (sent) (rep) (kept) (rc) (los) (wai) (set) (bad) (gon) (bk) (bp) (bv)) sz) := by
  refine Met.ofW (cc := cX3_sendNextPacket) (maxL := 4) (ret := none) (by decide) rfl ?_
  intro p e s m args below meth c s₁ B hml hv
  obtain ⟨rfl, hsz, hP, hK, hD0, hN⟩ := hv
  have hx := B.exec
  have hb := B.bytes
  have hr := B.returns
  have hts := atoms_spec (ws := wsX3_sendNextPacket) B.pre
  have hown : s.vm.findClass RX3 = some m.cls := findClass_of_methodNamed B.named
  have hlocks := B.notSynchronized
  subst hsz
  have hD := hD0.self (sz := s.heap.size)
  generalize hAe : va_A (wA cI cZ ad (pat) (sent) (rep) (kept) (rc) (los) (wai) (set) (bad) (gon) (bk) (bp) (bv)) s.heap.size = A at hD ⊢
  have hA : ∀ q : Nat, s.heap.size ≤ q → A q := fun q h => by rw [← hAe]; exact Or.inr h
  have hS : va_S A s.heap s.heap [] := va_S.rf
  have hl := lv_entry ([.ref (ad 0)]) (n := 4) (Nat.le_of_ble_eq_true rfl)
  rw [lg_entry_eq]
  generalize (lg_sl ([.ref (ad 0)]) ++ List.replicate (4 - (lg_sl ([.ref (ad 0)])).length) Slot.unset).toArray = ls at hl ⊢
  have hl : lv_has ls 4 [(0, .ref (ad 0))] := hl
  refine lv_iconst (v := nI (1)) hx hb dX3_sendNextPacket_0 (by decide) ?_
  refine lv_aload_n hx hb dX3_sendNextPacket_1 rfl (lv_at hl 0 rfl) ?_
  refine va_get (D := D) (ci := 2) (v := .int (nI (sent))) (C := RX3) (T := TX3) (N := 13) hx hb hts iwX3_sendNextPacket_X3 hown hK hP 0 rfl rfl 2 (by decide) (hts (.fieldLink RX3 56 "RepairSender" "sentCount" "I") (List.mem_of_getElem? (i := 1) rfl)) (fun _ h9 => h9) rfl dX3_sendNextPacket_2 ?_
  refine lv_bipush (v := nI (16)) hx hb dX3_sendNextPacket_5 (by decide) ?_
  refine lv_irem hx hb dX3_sendNextPacket_7 (by decide) ?_
  refine q_top (show (nI (sent) - nI (sent) / nI (16) * nI (16)) = nI ((sent) % 16) from pk_rem (by omega) (by decide) (by decide)) ?_
  refine lv_ishl hx hb dX3_sendNextPacket_8 ?_
  refine q_top (show (nI (1) <<< (nI ((sent) % 16) &&& 31)) = nI (2 ^ ((sent) % 16)) from nI_shl2 (by omega)) ?_
  refine lv_istore_n (lv' := [(1, .int (nI (2 ^ ((sent) % 16)))), (0, .ref (ad 0))]) hx hb dX3_sendNextPacket_9 rfl hl (by decide) rfl (fun ls hl => ?_)
  refine lv_iconst (v := nI (1)) hx hb dX3_sendNextPacket_10 (by decide) ?_
  refine lv_aload_n hx hb dX3_sendNextPacket_11 rfl (lv_at hl 1 rfl) ?_
  refine va_get (D := D) (ci := 2) (v := .int (nI (sent))) (C := RX3) (T := TX3) (N := 13) hx hb hts iwX3_sendNextPacket_X3 hown hK hP 0 rfl rfl 2 (by decide) (hts (.fieldLink RX3 56 "RepairSender" "sentCount" "I") (List.mem_of_getElem? (i := 1) rfl)) (fun _ h9 => h9) rfl dX3_sendNextPacket_12 ?_
  refine lv_bipush (v := nI (11)) hx hb dX3_sendNextPacket_15 (by decide) ?_
  refine lv_irem hx hb dX3_sendNextPacket_17 (by decide) ?_
  refine q_top (show (nI (sent) - nI (sent) / nI (11) * nI (11)) = nI ((sent) % 11) from pk_rem (by omega) (by decide) (by decide)) ?_
  refine lv_ishl hx hb dX3_sendNextPacket_18 ?_
  refine q_top (show (nI (1) <<< (nI ((sent) % 11) &&& 31)) = nI (2 ^ ((sent) % 11)) from nI_shl2 (by omega)) ?_
  refine lv_istore_n (lv' := [(2, .int (nI (2 ^ ((sent) % 11)))), (1, .int (nI (2 ^ ((sent) % 16)))), (0, .ref (ad 0))]) hx hb dX3_sendNextPacket_19 rfl hl (by decide) rfl (fun ls hl => ?_)
  refine lv_iconst (v := nI (0)) hx hb dX3_sendNextPacket_20 (by decide) ?_
  refine lv_istore_n (lv' := [(3, .int (nI (0))), (2, .int (nI (2 ^ ((sent) % 11)))), (1, .int (nI (2 ^ ((sent) % 16)))), (0, .ref (ad 0))]) hx hb dX3_sendNextPacket_21 rfl hl (by decide) rfl (fun ls hl => ?_)
  have L22_1 : ∀ (n22_1 : Nat) (i : Nat), rc - i < n22_1 → (i ≤ rc) → ∀ (H : Heap) (locs : List Loc), va_P D vwCl (wA cI cZ ad (pat) (sent) (rep) (kept) (rc) (los) (wai) (snd1 i sent los gon set) (bad) (gon) (bk) (bp) (bv)) H → va_D A (wA cI cZ ad (pat) (sent) (rep) (kept) (rc) (los) (wai) (snd1 i sent los gon set) (bad) (gon) (bk) (bp) (bv)) → va_S A s.heap H locs → ∀ (ls : Array Slot), lv_has ls 4 [(0, .ref (ad 0)), (1, .int (nI (2 ^ (sent % 16)))), (2, .int (nI (2 ^ (sent % 11)))), (3, .int (nI (i)))] → W p l e (headSpec wsX3_sendNextPacket ({ frames := 0, cells := 0, slots := 0, locals := 0 } : Room)).room s m ([.ref (ad 0)] : List Value).toArray below meth c H locs 0 0 (MQ below (QV D A (fun (_ : Unit) => True) (fun _ => (wA cI cZ ad (pat) (sent + 1) (rep) (kept) (rc) (los) (wai) (snd1 rc sent los gon set) (bad) (gon) (bk) (bp) (bv)))) ([.ref (ad 0)] : List Value).toArray s 0 0 A) (F0 m 22 ls []) := by
    intro n22_1
    induction n22_1 with
    | zero =>
      intro i hn22_1
      exact absurd hn22_1 (Nat.not_lt_zero _)
    | succ n22_1 ih22_1 =>
      intro i hn22_1 hi H locs hP hD hS ls hl
      refine lv_iload_n hx hb dX3_sendNextPacket_22 rfl (lv_at hl 3 rfl) ?_
      refine lv_aload_n hx hb dX3_sendNextPacket_23 rfl (lv_at hl 0 rfl) ?_
      refine va_get (D := D) (ci := 2) (v := .int (nI (rc))) (C := RX3) (T := TX3) (N := 13) hx hb hts iwX3_sendNextPacket_X3 hown hK hP 0 rfl rfl 5 (by decide) (hts (.fieldLink RX3 84 "RepairSender" "receiverCount" "I") (List.mem_of_getElem? (i := 2) rfl)) (fun _ h9 => h9) rfl dX3_sendNextPacket_24 ?_
      refine q_icmp_ge (u := ((i : Nat) : Int)) (v := ((rc : Nat) : Int)) (tgt := 66) hx hb dX3_sendNextPacket_27 (by decide) (nI_toInt (by omega)) (nI_toInt (by omega)) (fun c_27 => ?_) (fun c_27 => ?_)
      · obtain rfl : rc = i := by omega
        refine lv_aload_n hx hb dX3_sendNextPacket_66 rfl (lv_at hl 0 rfl) ?_
        refine lv_dup hx hb dX3_sendNextPacket_67 rfl ?_
        refine va_get (D := D) (ci := 2) (v := .int (nI (sent))) (C := RX3) (T := TX3) (N := 13) hx hb hts iwX3_sendNextPacket_X3 hown hK hP 0 rfl rfl 2 (by decide) (hts (.fieldLink RX3 56 "RepairSender" "sentCount" "I") (List.mem_of_getElem? (i := 1) rfl)) (fun _ h9 => h9) rfl dX3_sendNextPacket_68 ?_
        refine lv_iconst (v := nI (1)) hx hb dX3_sendNextPacket_71 (by decide) ?_
        refine lv_iadd hx hb dX3_sendNextPacket_72 ?_
        refine q_top (show (nI (sent) + nI (1)) = nI (sent + 1) from nI_add _ _) ?_
        refine va_put (D := D) (ci := 2) (v := .int (nI (sent + 1))) (ty := .int) (C := RX3) (T := TX3) (N := 13) hx hb hts iwX3_sendNextPacket_X3 tyX3 tyX3_ok nmX3 hown hK hP hD hS 0 rfl rfl 2 (by decide) (hts (.fieldLink RX3 56 "RepairSender" "sentCount" "I") (List.mem_of_getElem? (i := 1) rfl)) (fun _ h9 => h9) rfl (by decide +kernel) rfl rfl (Nat.le_of_ble_eq_true rfl) dX3_sendNextPacket_73 (fun H locs hP hD hS => ?_)
        have hP : va_P D vwCl (wA cI cZ ad (pat) (sent + 1) (rep) (kept) (rc) (los) (wai) (snd1 rc sent los gon set) (bad) (gon) (bk) (bp) (bv)) H := hP
        have hD : va_D A (wA cI cZ ad (pat) (sent + 1) (rep) (kept) (rc) (los) (wai) (snd1 rc sent los gon set) (bad) (gon) (bk) (bp) (bv)) := hD
        have hP : va_P D vwCl (wA cI cZ ad (pat) (sent + 1) (rep) (kept) (rc) (los) (wai) (snd1 rc sent los gon set) (bad) (gon) (bk) (bp) (bv)) H := hP
        have hD : va_D A (wA cI cZ ad (pat) (sent + 1) (rep) (kept) (rc) (los) (wai) (snd1 rc sent los gon set) (bad) (gon) (bk) (bp) (bv)) := hD
        exact W.vret hx hb hr (fun t ht hW => ⟨⟨(), rfl, trivial, by rw [ht]; exact hP, hD⟩, hS.F ht⟩) hS.2.2 dX3_sendNextPacket_76
      · skip
        have hg6 := hgon i (by omega)
        have hl6 := hlos i (by omega)
        have hbt := and_bit (los i) (sent % 11)
        have hal : (los i) &&& (2 ^ (sent % 11)) ≤ los i := Nat.and_le_left
        refine lv_aload_n hx hb dX3_sendNextPacket_30 rfl (lv_at hl 0 rfl) ?_
        refine va_get (D := D) (ci := 2) (v := .ref (ad 5)) (C := RX3) (T := TX3) (N := 13) hx hb hts iwX3_sendNextPacket_X3 hown hK hP 0 rfl rfl 10 (by decide) (hts (.fieldLink RX3 29 "RepairSender" "dropped" "[Z") (List.mem_of_getElem? (i := 3) rfl)) (fun _ h9 => h9) rfl dX3_sendNextPacket_31 ?_
        refine lv_iload_n hx hb dX3_sendNextPacket_34 rfl (lv_at hl 3 rfl) ?_
        refine q_zald (f := gon) (j := i) hx hb hK hP 5 1 rfl rfl (by omega) (by decide) dX3_sendNextPacket_35 ?_
        refine q_if_ne (u := ((gon i : Nat) : Int)) (tgt := 60) hx hb dX3_sendNextPacket_36 (by decide) (nI_toInt (by omega)) (fun c_36 => ?_) (fun c_36 => ?_)
        · skip
          refine lv_iinc (v := nI (i + 1)) (lv' := [(3, .int (nI (i + 1))), (0, .ref (ad 0)), (1, .int (nI (2 ^ (sent % 16)))), (2, .int (nI (2 ^ (sent % 11))))]) hx hb dX3_sendNextPacket_60 hl (k := 3) rfl (show nI (i) + Int32.ofInt 1 = nI (i + 1) from nI_add (i) 1) (by decide) rfl (fun ls hl => ?_)
          refine lv_goto (tgt := 22) hx hb dX3_sendNextPacket_63 (by decide) ?_
          have eW : (wA cI cZ ad (pat) (sent) (rep) (kept) (rc) (los) (wai) (snd1 i sent los gon set) (bad) (gon) (bk) (bp) (bv)) = (wA cI cZ ad (pat) (sent) (rep) (kept) (rc) (los) (wai) (snd1 (i + 1) sent los gon set) (bad) (gon) (bk) (bp) (bv)) := by first | rw [snd1_y (by omega) hbit] | rw [snd1_n (by omega)]
          rw [eW] at hP hD
          clear eW
          exact ih22_1 (i + 1) (by omega) (by omega) _ _ hP hD hS ls (lv_sub hl [1, 2, 3, 0] rfl)
        · skip
          refine lv_aload_n hx hb dX3_sendNextPacket_39 rfl (lv_at hl 0 rfl) ?_
          refine va_get (D := D) (ci := 2) (v := .ref (ad 1)) (C := RX3) (T := TX3) (N := 13) hx hb hts iwX3_sendNextPacket_X3 hown hK hP 0 rfl rfl 6 (by decide) (hts (.fieldLink RX3 16 "RepairSender" "losses" "[I") (List.mem_of_getElem? (i := 4) rfl)) (fun _ h9 => h9) rfl dX3_sendNextPacket_40 ?_
          refine lv_iload_n hx hb dX3_sendNextPacket_43 rfl (lv_at hl 3 rfl) ?_
          refine q_iald (f := los) (j := i) hx hb hK hP 1 0 rfl rfl (by omega) (by decide) dX3_sendNextPacket_44 ?_
          refine lv_iload_n hx hb dX3_sendNextPacket_45 rfl (lv_at hl 2 rfl) ?_
          refine lv_iand hx hb dX3_sendNextPacket_46 ?_
          refine q_top (show (nI (los i) &&& nI (2 ^ (sent % 11))) = nI ((los i) &&& (2 ^ (sent % 11))) from nI_and _ _) ?_
          refine q_if_ne (u := (((los i) &&& (2 ^ (sent % 11)) : Nat) : Int)) (tgt := 60) hx hb dX3_sendNextPacket_47 (by decide) (nI_toInt (by omega)) (fun c_47 => ?_) (fun c_47 => ?_)
          · have hbit : ¬ (los i / 2 ^ (sent % 11) % 2 = 0) := fun z => absurd (hbt.mpr z) (by omega)
            refine lv_iinc (v := nI (i + 1)) (lv' := [(3, .int (nI (i + 1))), (0, .ref (ad 0)), (1, .int (nI (2 ^ (sent % 16)))), (2, .int (nI (2 ^ (sent % 11))))]) hx hb dX3_sendNextPacket_60 hl (k := 3) rfl (show nI (i) + Int32.ofInt 1 = nI (i + 1) from nI_add (i) 1) (by decide) rfl (fun ls hl => ?_)
            refine lv_goto (tgt := 22) hx hb dX3_sendNextPacket_63 (by decide) ?_
            have eW : (wA cI cZ ad (pat) (sent) (rep) (kept) (rc) (los) (wai) (snd1 i sent los gon set) (bad) (gon) (bk) (bp) (bv)) = (wA cI cZ ad (pat) (sent) (rep) (kept) (rc) (los) (wai) (snd1 (i + 1) sent los gon set) (bad) (gon) (bk) (bp) (bv)) := by first | rw [snd1_y (by omega) hbit] | rw [snd1_n (by omega)]
            rw [eW] at hP hD
            clear eW
            exact ih22_1 (i + 1) (by omega) (by omega) _ _ hP hD hS ls (lv_sub hl [1, 2, 3, 0] rfl)
          · have hbit : los i / 2 ^ (sent % 11) % 2 = 0 := hbt.mp (by omega)
            refine lv_aload_n hx hb dX3_sendNextPacket_50 rfl (lv_at hl 0 rfl) ?_
            refine va_get (D := D) (ci := 2) (v := .ref (ad 3)) (C := RX3) (T := TX3) (N := 13) hx hb hts iwX3_sendNextPacket_X3 hown hK hP 0 rfl rfl 8 (by decide) (hts (.fieldLink RX3 23 "RepairSender" "packetSets" "[I") (List.mem_of_getElem? (i := 5) rfl)) (fun _ h9 => h9) rfl dX3_sendNextPacket_51 ?_
            refine lv_iload_n hx hb dX3_sendNextPacket_54 rfl (lv_at hl 3 rfl) ?_
            refine lv_dup2_11 hx hb dX3_sendNextPacket_55 rfl rfl ?_
            refine q_iald (f := (snd1 i sent los gon set)) (j := i) hx hb hK hP 3 0 rfl rfl (by omega) (by decide) dX3_sendNextPacket_56 ?_
            refine lv_iload_n hx hb dX3_sendNextPacket_57 rfl (lv_at hl 1 rfl) ?_
            refine lv_ior hx hb dX3_sendNextPacket_58 ?_
            refine q_top (show (nI ((snd1 i sent los gon set) i) ||| nI (2 ^ (sent % 16))) = nI (((snd1 i sent los gon set) i) ||| (2 ^ (sent % 16))) from nI_or _ _) ?_
            refine q_iast (f := (snd1 i sent los gon set)) (j := i) (y := ((snd1 i sent los gon set) i) ||| (2 ^ (sent % 16))) hx hb hK hP hD hS 3 0 rfl rfl (by omega) (by decide) dX3_sendNextPacket_59 (fun H locs hP hD hS => ?_)
            have hP : va_P D vwCl (wA cI cZ ad (pat) (sent) (rep) (kept) (rc) (los) (wai) (un (snd1 i sent los gon set) i (((snd1 i sent los gon set) i) ||| (2 ^ (sent % 16)))) (bad) (gon) (bk) (bp) (bv)) H := hP
            have hD : va_D A (wA cI cZ ad (pat) (sent) (rep) (kept) (rc) (los) (wai) (un (snd1 i sent los gon set) i (((snd1 i sent los gon set) i) ||| (2 ^ (sent % 16)))) (bad) (gon) (bk) (bp) (bv)) := hD
            refine lv_iinc (v := nI (i + 1)) (lv' := [(3, .int (nI (i + 1))), (0, .ref (ad 0)), (1, .int (nI (2 ^ (sent % 16)))), (2, .int (nI (2 ^ (sent % 11))))]) hx hb dX3_sendNextPacket_60 hl (k := 3) rfl (show nI (i) + Int32.ofInt 1 = nI (i + 1) from nI_add (i) 1) (by decide) rfl (fun ls hl => ?_)
            refine lv_goto (tgt := 22) hx hb dX3_sendNextPacket_63 (by decide) ?_
            have eW : (wA cI cZ ad (pat) (sent) (rep) (kept) (rc) (los) (wai) (un (snd1 i sent los gon set) i (((snd1 i sent los gon set) i) ||| (2 ^ (sent % 16)))) (bad) (gon) (bk) (bp) (bv)) = (wA cI cZ ad (pat) (sent) (rep) (kept) (rc) (los) (wai) (snd1 (i + 1) sent los gon set) (bad) (gon) (bk) (bp) (bv)) := by first | rw [snd1_y (by omega) hbit] | rw [snd1_n (by omega)]
            rw [eW] at hP hD
            clear eW
            exact ih22_1 (i + 1) (by omega) (by omega) _ _ hP hD hS ls (lv_sub hl [1, 2, 3, 0] rfl)
  have eW : (wA cI cZ ad (pat) (sent) (rep) (kept) (rc) (los) (wai) (set) (bad) (gon) (bk) (bp) (bv)) = (wA cI cZ ad (pat) (sent) (rep) (kept) (rc) (los) (wai) (snd1 0 sent los gon set) (bad) (gon) (bk) (bp) (bv)) := by rw [snd1_0]
  rw [eW] at hP hD
  clear eW
  exact L22_1 _ (0) (Nat.lt_succ_self _) (by omega) _ _ hP hD hS ls (lv_sub hl [3, 2, 1, 0] rfl)

set_option maxHeartbeats 4000000 in
set_option maxRecDepth 100000 in
theorem c_X3_sendPackets (l : Launch) (D : va_G) (cI cZ cQ cL : ClassId) (ad : Nat → Nat) (pat : Nat) (sent : Nat) (rep : Nat) (kept : Nat) (rc : Nat) (los : Nat → Nat) (wai : Nat → Nat) (set : Nat → Nat) (bad : Nat → Nat) (gon : Nat → Nat) (bk : Nat) (bp : Nat → B8) (bv : Nat → B8) (mn : Nat) (sz : Nat) (hrc : rc ≤ 6) (hse : sent + mn < 2 ^ 30) (hlos : ∀ r, r < 6 → los r ≤ 2047) (hgon : ∀ r, r < 6 → gon r ≤ 1) (hset : ∀ r, r < 6 → set r < 65536) : Met l yX3_sendPackets wsX3_sendPackets ({ frames := 1, cells := 0, slots := 0, locals := 23 } : Room) (PW D (TY cI cZ cQ cL) (wA cI cZ ad (pat) (sent) (rep) (kept) (rc) (los) (wai) (set) (bad) (gon) (bk) (bp) (bv)) sz [.ref (ad 0), .int (nI (mn))]) (QV D (va_A (wA cI cZ ad (pat) (sent) (rep) (kept) (rc) (los) (wai) (set) (bad) (gon) (bk) (bp) (bv)) sz) (fun (_ : Unit) => True) (fun _ => (wA cI cZ ad (pat) (sent + mn) (rep) (kept) (rc) (los) (wai) (sndM rc sent los gon set mn) (bad) (gon) (bk) (bp) (bv)))) 0 0 (va_A (wA cI cZ ad (pat) (sent) (rep) (kept) (rc) (los) (wai) (set) (bad) (gon) (bk) (bp) (bv)) sz) := by
  refine Met.ofW (cc := cX3_sendPackets) (maxL := 3) (ret := none) (by decide) rfl ?_
  intro p e s m args below meth c s₁ B hml hv
  obtain ⟨rfl, hsz, hP, hK, hD0, hN⟩ := hv
  have hx := B.exec
  have hb := B.bytes
  have hr := B.returns
  have hts := atoms_spec (ws := wsX3_sendPackets) B.pre
  have hown : s.vm.findClass RX3 = some m.cls := findClass_of_methodNamed B.named
  have hlocks := B.notSynchronized
  subst hsz
  have hD := hD0.self (sz := s.heap.size)
  generalize hAe : va_A (wA cI cZ ad (pat) (sent) (rep) (kept) (rc) (los) (wai) (set) (bad) (gon) (bk) (bp) (bv)) s.heap.size = A at hD ⊢
  have hA : ∀ q : Nat, s.heap.size ≤ q → A q := fun q h => by rw [← hAe]; exact Or.inr h
  have hS : va_S A s.heap s.heap [] := va_S.rf
  have hl := lv_entry ([.ref (ad 0), .int (nI (mn))]) (n := 3) (Nat.le_of_ble_eq_true rfl)
  rw [lg_entry_eq]
  generalize (lg_sl ([.ref (ad 0), .int (nI (mn))]) ++ List.replicate (3 - (lg_sl ([.ref (ad 0), .int (nI (mn))])).length) Slot.unset).toArray = ls at hl ⊢
  have hl : lv_has ls 3 [(0, .ref (ad 0)), (1, .int (nI (mn)))] := hl
  refine lv_iconst (v := nI (0)) hx hb dX3_sendPackets_0 (by decide) ?_
  refine lv_istore_n (lv' := [(2, .int (nI (0))), (0, .ref (ad 0)), (1, .int (nI (mn)))]) hx hb dX3_sendPackets_1 rfl hl (by decide) rfl (fun ls hl => ?_)
  have L2_1 : ∀ (n2_1 : Nat) (i : Nat), mn - i < n2_1 → (i ≤ mn) → ∀ (H : Heap) (locs : List Loc), va_P D vwCl (wA cI cZ ad (pat) (sent + i) (rep) (kept) (rc) (los) (wai) (sndM rc sent los gon set i) (bad) (gon) (bk) (bp) (bv)) H → va_D A (wA cI cZ ad (pat) (sent + i) (rep) (kept) (rc) (los) (wai) (sndM rc sent los gon set i) (bad) (gon) (bk) (bp) (bv)) → va_S A s.heap H locs → ∀ (ls : Array Slot), lv_has ls 3 [(0, .ref (ad 0)), (1, .int (nI (mn))), (2, .int (nI (i)))] → W p l e (headSpec wsX3_sendPackets ({ frames := 1, cells := 0, slots := 0, locals := 23 } : Room)).room s m ([.ref (ad 0), .int (nI (mn))] : List Value).toArray below meth c H locs 0 0 (MQ below (QV D A (fun (_ : Unit) => True) (fun _ => (wA cI cZ ad (pat) (sent + mn) (rep) (kept) (rc) (los) (wai) (sndM rc sent los gon set mn) (bad) (gon) (bk) (bp) (bv)))) ([.ref (ad 0), .int (nI (mn))] : List Value).toArray s 0 0 A) (F0 m 2 ls []) := by
    intro n2_1
    induction n2_1 with
    | zero =>
      intro i hn2_1
      exact absurd hn2_1 (Nat.not_lt_zero _)
    | succ n2_1 ih2_1 =>
      intro i hn2_1 hi H locs hP hD hS ls hl
      refine lv_iload_n hx hb dX3_sendPackets_2 rfl (lv_at hl 2 rfl) ?_
      refine lv_iload_n hx hb dX3_sendPackets_3 rfl (lv_at hl 1 rfl) ?_
      refine q_icmp_ge (u := ((i : Nat) : Int)) (v := ((mn : Nat) : Int)) (tgt := 17) hx hb dX3_sendPackets_4 (by decide) (nI_toInt (by omega)) (nI_toInt (by omega)) (fun c_4 => ?_) (fun c_4 => ?_)
      · obtain rfl : mn = i := by omega
        have hP : va_P D vwCl (wA cI cZ ad (pat) (sent + mn) (rep) (kept) (rc) (los) (wai) (sndM rc sent los gon set mn) (bad) (gon) (bk) (bp) (bv)) H := hP
        have hD : va_D A (wA cI cZ ad (pat) (sent + mn) (rep) (kept) (rc) (los) (wai) (sndM rc sent los gon set mn) (bad) (gon) (bk) (bp) (bv)) := hD
        exact W.vret hx hb hr (fun t ht hW => ⟨⟨(), rfl, trivial, by rw [ht]; exact hP, hD⟩, hS.F ht⟩) hS.2.2 dX3_sendPackets_17
      · skip
        refine lv_aload_n hx hb dX3_sendPackets_7 rfl (lv_at hl 0 rfl) ?_
        have hPc : va_P D vwCl (wA cI cZ ad (pat) ((sent + i)) (rep) (kept) (rc) (los) (wai) ((sndM rc sent los gon set i)) (bad) (gon) (bk) (bp) (bv)) H := hP
        refine q_cv (wc := (wA cI cZ ad (pat) ((sent + i)) (rep) (kept) (rc) (los) (wai) ((sndM rc sent los gon set i)) (bad) (gon) (bk) (bp) (bv))) (wr := []) (w1 := fun _ => (wA cI cZ ad (pat) ((sent + i) + 1) (rep) (kept) (rc) (los) (wai) (snd1 rc (sent + i) los gon (sndM rc sent los gon set i)) (bad) (gon) (bk) (bp) (bv))) (va_runV (As := []) (rest := []) ⟨hx, hb, hml, hown, hts⟩ (c_X3_sendNextPacket l D cI cZ cQ cL (ad) (pat) (sent + i) (rep) (kept) (rc) (los) (wai) (sndM rc sent los gon set i) (bad) (gon) (bk) (bp) (bv) H.size (hrc) (by omega) (hlos) (hgon) (sndM_lt hset i)) (cwV 0 hts gX3_sendPackets_X3_sendNextPacket rfl rfl rfl ⟨rfl, hd_X3_sendNextPacket⟩ ⟨Nat.le_of_ble_eq_true rfl, Nat.le_of_ble_eq_true rfl⟩) (PW_v (q := (RX3, TX3, 13)) (ci := 2) (q0 := 0) hPc hK hD hN rfl rfl) rfl rfl hl.1 rfl (lv_room (Nat.le_of_ble_eq_true rfl)) dX3_sendPackets_8 ⟨Nat.le_of_ble_eq_true rfl, Nat.le_of_ble_eq_true rfl⟩) hP hD hS hA [0, 1, 2, 3, 4, 5, 6, 7, 8] [] rfl rfl (by decide) (by decide) (fun u_8 H locs h_8 hP hD hS => ?_)
        have hP : va_P D vwCl (wA cI cZ ad (pat) ((sent + i) + 1) (rep) (kept) (rc) (los) (wai) (snd1 rc (sent + i) los gon (sndM rc sent los gon set i)) (bad) (gon) (bk) (bp) (bv)) H := hP
        have hD : va_D A (wA cI cZ ad (pat) ((sent + i) + 1) (rep) (kept) (rc) (los) (wai) (snd1 rc (sent + i) los gon (sndM rc sent los gon set i)) (bad) (gon) (bk) (bp) (bv)) := hD
        refine lv_iinc (v := nI (i + 1)) (lv' := [(2, .int (nI (i + 1))), (0, .ref (ad 0)), (1, .int (nI (mn)))]) hx hb dX3_sendPackets_11 hl (k := 2) rfl (show nI (i) + Int32.ofInt 1 = nI (i + 1) from nI_add (i) 1) (by decide) rfl (fun ls hl => ?_)
        refine lv_goto (tgt := 2) hx hb dX3_sendPackets_14 (by decide) ?_
        have eW : (wA cI cZ ad (pat) ((sent + i) + 1) (rep) (kept) (rc) (los) (wai) (snd1 rc (sent + i) los gon (sndM rc sent los gon set i)) (bad) (gon) (bk) (bp) (bv)) = (wA cI cZ ad (pat) (sent + (i + 1)) (rep) (kept) (rc) (los) (wai) (sndM rc sent los gon set (i + 1)) (bad) (gon) (bk) (bp) (bv)) := by rfl
        rw [eW] at hP hD
        clear eW
        exact ih2_1 (i + 1) (by omega) (by omega) _ _ hP hD hS ls (lv_sub hl [1, 2, 0] rfl)
  have eW : (wA cI cZ ad (pat) (sent) (rep) (kept) (rc) (los) (wai) (set) (bad) (gon) (bk) (bp) (bv)) = (wA cI cZ ad (pat) (sent + 0) (rep) (kept) (rc) (los) (wai) (sndM rc sent los gon set 0) (bad) (gon) (bk) (bp) (bv)) := by rfl
  rw [eW] at hP hD
  clear eW
  exact L2_1 _ (0) (Nat.lt_succ_self _) (by omega) _ _ hP hD hS ls (lv_sub hl [1, 2, 0] rfl)

theorem iwX3_hearReportsAt_X3 : ∀ w ∈ wsX30, w ∈ wsX3_hearReportsAt := by decide +kernel
set_option maxHeartbeats 4000000 in
set_option maxRecDepth 100000 in
theorem c_X3_hearReportsAt (l : Launch) (D : va_G) (cI cZ cQ cL : ClassId) (ad : Nat → Nat) (pat : Nat) (sent : Nat) (rep : Nat) (kept : Nat) (rc : Nat) (los : Nat → Nat) (wai : Nat → Nat) (set : Nat → Nat) (bad : Nat → Nat) (gon : Nat → Nat) (bk : Nat) (bp : Nat → B8) (bv : Nat → B8) (wt : Nat) (hbd : Nat) (sz : Nat) (hrc : rc ≤ 6) (hwai : ∀ r, r < 6 → wai r ≤ 20) (hset : ∀ r, r < 6 → set r < 65536) (hbk : bk ≤ 8) (hgon : ∀ r, r < 6 → gon r ≤ 1) (hwt : wt ≤ 20) (hhb : hbd ≤ 8) : Met l yX3_hearReportsAt wsX3_hearReportsAt ({ frames := 3, cells := 0, slots := 0, locals := 62 } : Room) (PW D (TY cI cZ cQ cL) (wA cI cZ ad (pat) (sent) (rep) (kept) (rc) (los) (wai) (set) (bad) (gon) (bk) (bp) (bv)) sz [.ref (ad 0), .int (nI (wt)), .int (nI (hbd))]) (QI D (va_A (wA cI cZ ad (pat) (sent) (rep) (kept) (rc) (los) (wai) (set) (bad) (gon) (bk) (bp) (bv)) sz) (fun z9 (_ : Unit) => z9 = nI (hrH (ndf bk set gon) wai wt hbd rc)) (fun _ => (wA cI cZ ad (pat) (sent) (rep + hrR (ndf bk set gon) wai wt hbd rc) (kept + hrK (ndf bk set gon) wai wt hbd rc) (rc) (los) (wai) (set) (bad) (gon) (bk) (bp) (bv)))) 0 0 (va_A (wA cI cZ ad (pat) (sent) (rep) (kept) (rc) (los) (wai) (set) (bad) (gon) (bk) (bp) (bv)) sz) := by
  refine Met.ofW (cc := cX3_hearReportsAt) (maxL := 6) (ret := (some .int)) (by decide) rfl ?_
  intro p e s m args below meth c s₁ B hml hv
  obtain ⟨rfl, hsz, hP, hK, hD0, hN⟩ := hv
  have hx := B.exec
  have hb := B.bytes
  have hr := B.returns
  have hts := atoms_spec (ws := wsX3_hearReportsAt) B.pre
  have hown : s.vm.findClass RX3 = some m.cls := findClass_of_methodNamed B.named
  have hlocks := B.notSynchronized
  subst hsz
  have hD := hD0.self (sz := s.heap.size)
  generalize hAe : va_A (wA cI cZ ad (pat) (sent) (rep) (kept) (rc) (los) (wai) (set) (bad) (gon) (bk) (bp) (bv)) s.heap.size = A at hD ⊢
  have hA : ∀ q : Nat, s.heap.size ≤ q → A q := fun q h => by rw [← hAe]; exact Or.inr h
  have hS : va_S A s.heap s.heap [] := va_S.rf
  have hl := lv_entry ([.ref (ad 0), .int (nI (wt)), .int (nI (hbd))]) (n := 6) (Nat.le_of_ble_eq_true rfl)
  rw [lg_entry_eq]
  generalize (lg_sl ([.ref (ad 0), .int (nI (wt)), .int (nI (hbd))]) ++ List.replicate (6 - (lg_sl ([.ref (ad 0), .int (nI (wt)), .int (nI (hbd))])).length) Slot.unset).toArray = ls at hl ⊢
  have hl : lv_has ls 6 [(0, .ref (ad 0)), (1, .int (nI (wt))), (2, .int (nI (hbd)))] := hl
  refine lv_iload_n hx hb dX3_hearReportsAt_0 rfl (lv_at hl 2 rfl) ?_
  refine lv_istore_n (lv' := [(3, .int (nI (hbd))), (0, .ref (ad 0)), (1, .int (nI (wt))), (2, .int (nI (hbd)))]) hx hb dX3_hearReportsAt_1 rfl hl (by decide) rfl (fun ls hl => ?_)
  refine lv_iconst (v := nI (0)) hx hb dX3_hearReportsAt_2 (by decide) ?_
  refine lv_istore (lv' := [(4, .int (nI (0))), (3, .int (nI (hbd))), (0, .ref (ad 0)), (1, .int (nI (wt))), (2, .int (nI (hbd)))]) hx hb dX3_hearReportsAt_3 hl (by decide) rfl (fun ls hl => ?_)
  have L5_1 : ∀ (n5_1 : Nat) (i : Nat), rc - i < n5_1 → (i ≤ rc) → ∀ (H : Heap) (locs : List Loc), va_P D vwCl (wA cI cZ ad (pat) (sent) (rep + hrR (ndf bk set gon) wai wt hbd i) (kept + hrK (ndf bk set gon) wai wt hbd i) (rc) (los) (wai) (set) (bad) (gon) (bk) (bp) (bv)) H → va_D A (wA cI cZ ad (pat) (sent) (rep + hrR (ndf bk set gon) wai wt hbd i) (kept + hrK (ndf bk set gon) wai wt hbd i) (rc) (los) (wai) (set) (bad) (gon) (bk) (bp) (bv)) → va_S A s.heap H locs → ∀ (ls : Array Slot), lv_has ls 6 [(0, .ref (ad 0)), (1, .int (nI (wt))), (2, .int (nI (hbd))), (3, .int (nI (hrH (ndf bk set gon) wai wt hbd i))), (4, .int (nI (i)))] → W p l e (headSpec wsX3_hearReportsAt ({ frames := 3, cells := 0, slots := 0, locals := 62 } : Room)).room s m ([.ref (ad 0), .int (nI (wt)), .int (nI (hbd))] : List Value).toArray below meth c H locs 0 0 (MQ below (QI D A (fun z9 (_ : Unit) => z9 = nI (hrH (ndf bk set gon) wai wt hbd rc)) (fun _ => (wA cI cZ ad (pat) (sent) (rep + hrR (ndf bk set gon) wai wt hbd rc) (kept + hrK (ndf bk set gon) wai wt hbd rc) (rc) (los) (wai) (set) (bad) (gon) (bk) (bp) (bv)))) ([.ref (ad 0), .int (nI (wt)), .int (nI (hbd))] : List Value).toArray s 0 0 A) (F0 m 5 ls []) := by
    intro n5_1
    induction n5_1 with
    | zero =>
      intro i hn5_1
      exact absurd hn5_1 (Nat.not_lt_zero _)
    | succ n5_1 ih5_1 =>
      intro i hn5_1 hi H locs hP hD hS ls hl
      refine lv_iload hx hb dX3_hearReportsAt_5 (lv_at hl 4 rfl) ?_
      refine lv_aload_n hx hb dX3_hearReportsAt_7 rfl (lv_at hl 0 rfl) ?_
      refine va_get (D := D) (ci := 2) (v := .int (nI (rc))) (C := RX3) (T := TX3) (N := 13) hx hb hts iwX3_hearReportsAt_X3 hown hK hP 0 rfl rfl 5 (by decide) (hts (.fieldLink RX3 84 "RepairSender" "receiverCount" "I") (List.mem_of_getElem? (i := 1) rfl)) (fun _ h9 => h9) rfl dX3_hearReportsAt_8 ?_
      refine q_icmp_ge (u := ((i : Nat) : Int)) (v := ((rc : Nat) : Int)) (tgt := 84) hx hb dX3_hearReportsAt_11 (by decide) (nI_toInt (by omega)) (nI_toInt (by omega)) (fun c_11 => ?_) (fun c_11 => ?_)
      · obtain rfl : rc = i := by omega
        refine lv_iload_n hx hb dX3_hearReportsAt_84 rfl (lv_at hl 3 rfl) ?_
        have hP : va_P D vwCl (wA cI cZ ad (pat) (sent) (rep + hrR (ndf bk set gon) wai wt hbd rc) (kept + hrK (ndf bk set gon) wai wt hbd rc) (rc) (los) (wai) (set) (bad) (gon) (bk) (bp) (bv)) H := hP
        have hD : va_D A (wA cI cZ ad (pat) (sent) (rep + hrR (ndf bk set gon) wai wt hbd rc) (kept + hrK (ndf bk set gon) wai wt hbd rc) (rc) (los) (wai) (set) (bad) (gon) (bk) (bp) (bv)) := hD
        exact W.iret (v := nI (hrH (ndf bk set gon) wai wt hbd rc)) hx hb hr (fun t ht hW => ⟨⟨_, (), rfl, (by rfl), by rw [ht]; exact hP, hD⟩, hS.F ht⟩) hS.2.2 dX3_hearReportsAt_85
      · skip
        have hw6 := hwai i (by omega)
        have hhl : hrH (ndf bk set gon) wai wt hbd i ≤ 8 := hrH_le hhb i (fun r _ => Nat.le_trans (ndf_le bk set gon r) hbk)
        refine lv_aload_n hx hb dX3_hearReportsAt_14 rfl (lv_at hl 0 rfl) ?_
        refine va_get (D := D) (ci := 2) (v := .ref (ad 2)) (C := RX3) (T := TX3) (N := 13) hx hb hts iwX3_hearReportsAt_X3 hown hK hP 0 rfl rfl 7 (by decide) (hts (.fieldLink RX3 20 "RepairSender" "waits" "[I") (List.mem_of_getElem? (i := 2) rfl)) (fun _ h9 => h9) rfl dX3_hearReportsAt_15 ?_
        refine lv_iload hx hb dX3_hearReportsAt_18 (lv_at hl 4 rfl) ?_
        refine q_iald (f := wai) (j := i) hx hb hK hP 2 0 rfl rfl (by omega) (by decide) dX3_hearReportsAt_20 ?_
        refine lv_iload_n hx hb dX3_hearReportsAt_21 rfl (lv_at hl 1 rfl) ?_
        refine q_icmp_ne (u := ((wai i : Nat) : Int)) (v := ((wt : Nat) : Int)) (tgt := 78) hx hb dX3_hearReportsAt_22 (by decide) (nI_toInt (by omega)) (nI_toInt (by omega)) (fun c_22 => ?_) (fun c_22 => ?_)
        · have eR : hrR (ndf bk set gon) wai wt hbd (i + 1) = hrR (ndf bk set gon) wai wt hbd i := if_neg (by omega)
          have eK : hrK (ndf bk set gon) wai wt hbd (i + 1) = hrK (ndf bk set gon) wai wt hbd i := if_neg (by omega)
          have eH : hrH (ndf bk set gon) wai wt hbd (i + 1) = hrH (ndf bk set gon) wai wt hbd i := if_neg (by omega)
          refine lv_iinc (v := nI (i + 1)) (lv' := [(4, .int (nI (i + 1))), (0, .ref (ad 0)), (1, .int (nI (wt))), (2, .int (nI (hbd))), (3, .int (nI (hrH (ndf bk set gon) wai wt hbd i)))]) hx hb dX3_hearReportsAt_78 hl (k := 4) rfl (show nI (i) + Int32.ofInt 1 = nI (i + 1) from nI_add (i) 1) (by decide) rfl (fun ls hl => ?_)
          refine lv_goto (tgt := 5) hx hb dX3_hearReportsAt_81 (by decide) ?_
          have eW : (wA cI cZ ad (pat) (sent) (rep + hrR (ndf bk set gon) wai wt hbd i) (kept + hrK (ndf bk set gon) wai wt hbd i) (rc) (los) (wai) (set) (bad) (gon) (bk) (bp) (bv)) = (wA cI cZ ad (pat) (sent) (rep + hrR (ndf bk set gon) wai wt hbd (i + 1)) (kept + hrK (ndf bk set gon) wai wt hbd (i + 1)) (rc) (los) (wai) (set) (bad) (gon) (bk) (bp) (bv)) := by rw [eR, eK]; try rfl
          rw [eW] at hP hD
          clear eW
          exact ih5_1 (i + 1) (by omega) (by omega) _ _ hP hD hS ls (lv_sub hl [1, 2, 3, 4, 0] (by rw [eH]; rfl))
        · skip
          refine lv_aload_n hx hb dX3_hearReportsAt_25 rfl (lv_at hl 0 rfl) ?_
          refine lv_iload hx hb dX3_hearReportsAt_26 (lv_at hl 4 rfl) ?_
          have hPc : va_P D vwCl (wA cI cZ ad (pat) (sent) ((rep + hrR (ndf bk set gon) wai wt hbd i)) ((kept + hrK (ndf bk set gon) wai wt hbd i)) (rc) (los) (wai) (set) (bad) (gon) (bk) (bp) (bv)) H := hP
          refine q_csi (va_runV (As := [.int (nI (i))]) (rest := []) ⟨hx, hb, hml, hown, hts⟩ (c_X3_isLiveAndLacks l D cI cZ cQ cL (ad) (pat) (sent) (rep + hrR (ndf bk set gon) wai wt hbd i) (kept + hrK (ndf bk set gon) wai wt hbd i) (rc) (los) (wai) (set) (bad) (gon) (bk) (bp) (bv) (i) H.size (by omega) (hset) (hbk) (hgon)) (cwV 1 hts gX3_hearReportsAt_X3_isLiveAndLacks rfl rfl rfl ⟨rfl, hd_X3_isLiveAndLacks⟩ ⟨Nat.le_of_ble_eq_true rfl, Nat.le_of_ble_eq_true rfl⟩) (PW_v (q := (RX3, TX3, 13)) (ci := 2) (q0 := 0) hPc hK hD hN rfl rfl) rfl rfl hl.1 rfl (lv_room (Nat.le_of_ble_eq_true rfl)) dX3_hearReportsAt_28 ⟨Nat.le_of_ble_eq_true rfl, Nat.le_of_ble_eq_true rfl⟩) (fun r_28 hr_28 => ?_)
          rcases hr_28 with ⟨rfl, h_28⟩ | ⟨rfl, h_28⟩
          · have h_28 : gon i = 0 ∧ 0 < bk - pc (set i) := h_28
            have hnd : ndf bk set gon i = bk - pc (set i) := if_pos h_28.1
            refine q_if_eq (u := ((1 : Nat) : Int)) (tgt := 78) hx hb dX3_hearReportsAt_31 (by decide) (nI_toInt (by omega)) (fun c_31 => absurd c_31 (by decide)) (fun _ => ?_)
            refine lv_aload_n hx hb dX3_hearReportsAt_34 rfl (lv_at hl 0 rfl) ?_
            refine lv_iload hx hb dX3_hearReportsAt_35 (lv_at hl 4 rfl) ?_
            have hPc : va_P D vwCl (wA cI cZ ad (pat) (sent) ((rep + hrR (ndf bk set gon) wai wt hbd i)) ((kept + hrK (ndf bk set gon) wai wt hbd i)) (rc) (los) (wai) (set) (bad) (gon) (bk) (bp) (bv)) H := hP
            refine q_csi (va_runV (As := [.int (nI (i))]) (rest := []) ⟨hx, hb, hml, hown, hts⟩ (c_X3_needOf l D cI cZ cQ cL (ad) (pat) (sent) (rep + hrR (ndf bk set gon) wai wt hbd i) (kept + hrK (ndf bk set gon) wai wt hbd i) (rc) (los) (wai) (set) (bad) (gon) (bk) (bp) (bv) (i) H.size (by omega) (hset) (hbk)) (cwV 1 hts gX3_hearReportsAt_X3_needOf rfl rfl rfl ⟨rfl, hd_X3_needOf⟩ ⟨Nat.le_of_ble_eq_true rfl, Nat.le_of_ble_eq_true rfl⟩) (PW_v (q := (RX3, TX3, 13)) (ci := 2) (q0 := 0) hPc hK hD hN rfl rfl) rfl rfl hl.1 rfl (lv_room (Nat.le_of_ble_eq_true rfl)) dX3_hearReportsAt_37 ⟨Nat.le_of_ble_eq_true rfl, Nat.le_of_ble_eq_true rfl⟩) (fun r_37 hr_37 => ?_)
            obtain rfl : r_37 = nI (bk - pc (set i)) := hr_37
            refine lv_istore (lv' := [(5, .int (nI (bk - pc (set i)))), (0, .ref (ad 0)), (1, .int (nI (wt))), (2, .int (nI (hbd))), (3, .int (nI (hrH (ndf bk set gon) wai wt hbd i))), (4, .int (nI (i)))]) hx hb dX3_hearReportsAt_40 hl (by decide) rfl (fun ls hl => ?_)
            refine lv_iload hx hb dX3_hearReportsAt_42 (lv_at hl 0 rfl) ?_
            refine lv_iload_n hx hb dX3_hearReportsAt_44 rfl (lv_at hl 3 rfl) ?_
            refine q_icmp_le (u := ((bk - pc (set i) : Nat) : Int)) (v := ((hbd : Nat) : Int)) (tgt := 68) hx hb dX3_hearReportsAt_45 (by decide) (nI_toInt (by omega)) (nI_toInt (by omega)) (fun c_45 => ?_) (fun c_45 => ?_)
            · have eR : hrR (ndf bk set gon) wai wt hbd (i + 1) = hrR (ndf bk set gon) wai wt hbd i := if_neg (by omega)
              have eK : hrK (ndf bk set gon) wai wt hbd (i + 1) = hrK (ndf bk set gon) wai wt hbd i + 1 := if_pos (by omega)
              have eH : hrH (ndf bk set gon) wai wt hbd (i + 1) = hrH (ndf bk set gon) wai wt hbd i := if_neg (by omega)
              refine lv_aload_n hx hb dX3_hearReportsAt_68 rfl (lv_at hl 1 rfl) ?_
              refine lv_dup hx hb dX3_hearReportsAt_69 rfl ?_
              refine va_get (D := D) (ci := 2) (v := .int (nI (kept + hrK (ndf bk set gon) wai wt hbd i))) (C := RX3) (T := TX3) (N := 13) hx hb hts iwX3_hearReportsAt_X3 hown hK hP 0 rfl rfl 4 (by decide) (hts (.fieldLink RX3 114 "RepairSender" "keptBackCount" "I") (List.mem_of_getElem? (i := 8) rfl)) (fun _ h9 => h9) rfl dX3_hearReportsAt_70 ?_
              refine lv_iconst (v := nI (1)) hx hb dX3_hearReportsAt_73 (by decide) ?_
              refine lv_iadd hx hb dX3_hearReportsAt_74 ?_
              refine q_top (show (nI (kept + hrK (ndf bk set gon) wai wt hbd i) + nI (1)) = nI ((kept + hrK (ndf bk set gon) wai wt hbd i) + 1) from nI_add _ _) ?_
              refine va_put (D := D) (ci := 2) (v := .int (nI ((kept + hrK (ndf bk set gon) wai wt hbd i) + 1))) (ty := .int) (C := RX3) (T := TX3) (N := 13) hx hb hts iwX3_hearReportsAt_X3 tyX3 tyX3_ok nmX3 hown hK hP hD hS 0 rfl rfl 4 (by decide) (hts (.fieldLink RX3 114 "RepairSender" "keptBackCount" "I") (List.mem_of_getElem? (i := 8) rfl)) (fun _ h9 => h9) rfl (by decide +kernel) rfl rfl (Nat.le_of_ble_eq_true rfl) dX3_hearReportsAt_75 (fun H locs hP hD hS => ?_)
              have hP : va_P D vwCl (wA cI cZ ad (pat) (sent) (rep + hrR (ndf bk set gon) wai wt hbd i) ((kept + hrK (ndf bk set gon) wai wt hbd i) + 1) (rc) (los) (wai) (set) (bad) (gon) (bk) (bp) (bv)) H := hP
              have hD : va_D A (wA cI cZ ad (pat) (sent) (rep + hrR (ndf bk set gon) wai wt hbd i) ((kept + hrK (ndf bk set gon) wai wt hbd i) + 1) (rc) (los) (wai) (set) (bad) (gon) (bk) (bp) (bv)) := hD
              refine lv_iinc (v := nI (i + 1)) (lv' := [(4, .int (nI (i + 1))), (5, .int (nI (bk - pc (set i)))), (0, .ref (ad 0)), (1, .int (nI (wt))), (2, .int (nI (hbd))), (3, .int (nI (hrH (ndf bk set gon) wai wt hbd i)))]) hx hb dX3_hearReportsAt_78 hl (k := 5) rfl (show nI (i) + Int32.ofInt 1 = nI (i + 1) from nI_add (i) 1) (by decide) rfl (fun ls hl => ?_)
              refine lv_goto (tgt := 5) hx hb dX3_hearReportsAt_81 (by decide) ?_
              have eW : (wA cI cZ ad (pat) (sent) (rep + hrR (ndf bk set gon) wai wt hbd i) ((kept + hrK (ndf bk set gon) wai wt hbd i) + 1) (rc) (los) (wai) (set) (bad) (gon) (bk) (bp) (bv)) = (wA cI cZ ad (pat) (sent) (rep + hrR (ndf bk set gon) wai wt hbd (i + 1)) (kept + hrK (ndf bk set gon) wai wt hbd (i + 1)) (rc) (los) (wai) (set) (bad) (gon) (bk) (bp) (bv)) := by rw [eR, eK]; try rfl
              rw [eW] at hP hD
              clear eW
              exact ih5_1 (i + 1) (by omega) (by omega) _ _ hP hD hS ls (lv_sub hl [2, 3, 4, 5, 0] (by rw [eH]; rfl))
            · have eR : hrR (ndf bk set gon) wai wt hbd (i + 1) = hrR (ndf bk set gon) wai wt hbd i + 1 := if_pos (by omega)
              have eK : hrK (ndf bk set gon) wai wt hbd (i + 1) = hrK (ndf bk set gon) wai wt hbd i := if_neg (by omega)
              have eH : hrH (ndf bk set gon) wai wt hbd (i + 1) = max (hrH (ndf bk set gon) wai wt hbd i) (bk - pc (set i)) := by
                rw [← hnd]
                exact if_pos (by omega)
              refine lv_aload_n hx hb dX3_hearReportsAt_48 rfl (lv_at hl 1 rfl) ?_
              refine lv_dup hx hb dX3_hearReportsAt_49 rfl ?_
              refine va_get (D := D) (ci := 2) (v := .int (nI (rep + hrR (ndf bk set gon) wai wt hbd i))) (C := RX3) (T := TX3) (N := 13) hx hb hts iwX3_hearReportsAt_X3 hown hK hP 0 rfl rfl 3 (by decide) (hts (.fieldLink RX3 111 "RepairSender" "reportCount" "I") (List.mem_of_getElem? (i := 3) rfl)) (fun _ h9 => h9) rfl dX3_hearReportsAt_50 ?_
              refine lv_iconst (v := nI (1)) hx hb dX3_hearReportsAt_53 (by decide) ?_
              refine lv_iadd hx hb dX3_hearReportsAt_54 ?_
              refine q_top (show (nI (rep + hrR (ndf bk set gon) wai wt hbd i) + nI (1)) = nI ((rep + hrR (ndf bk set gon) wai wt hbd i) + 1) from nI_add _ _) ?_
              refine va_put (D := D) (ci := 2) (v := .int (nI ((rep + hrR (ndf bk set gon) wai wt hbd i) + 1))) (ty := .int) (C := RX3) (T := TX3) (N := 13) hx hb hts iwX3_hearReportsAt_X3 tyX3 tyX3_ok nmX3 hown hK hP hD hS 0 rfl rfl 3 (by decide) (hts (.fieldLink RX3 111 "RepairSender" "reportCount" "I") (List.mem_of_getElem? (i := 3) rfl)) (fun _ h9 => h9) rfl (by decide +kernel) rfl rfl (Nat.le_of_ble_eq_true rfl) dX3_hearReportsAt_55 (fun H locs hP hD hS => ?_)
              have hP : va_P D vwCl (wA cI cZ ad (pat) (sent) ((rep + hrR (ndf bk set gon) wai wt hbd i) + 1) (kept + hrK (ndf bk set gon) wai wt hbd i) (rc) (los) (wai) (set) (bad) (gon) (bk) (bp) (bv)) H := hP
              have hD : va_D A (wA cI cZ ad (pat) (sent) ((rep + hrR (ndf bk set gon) wai wt hbd i) + 1) (kept + hrK (ndf bk set gon) wai wt hbd i) (rc) (los) (wai) (set) (bad) (gon) (bk) (bp) (bv)) := hD
              refine lv_iload_n hx hb dX3_hearReportsAt_58 rfl (lv_at hl 4 rfl) ?_
              refine lv_iload hx hb dX3_hearReportsAt_59 (lv_at hl 0 rfl) ?_
              refine va_mmax hx hb (hml.trans hl.1.symm) hown (hts (.methodLink RX3 181 Lib.Math.max.name) (List.mem_of_getElem? (i := 4) rfl)) (hts (.static Lib.Math.max.name) (List.mem_of_getElem? (i := 5) rfl)) (hts (.initialized "java/lang/Math") (List.mem_of_getElem? (i := 6) rfl)) (hts (.code Lib.Math.max.name Lib.Math.max.code 2 (some .int)) (List.mem_of_getElem? (i := 7) rfl)) (Nat.le_of_ble_eq_true rfl) (Nat.le_of_ble_eq_true rfl) (Nat.le_of_ble_eq_true rfl) (Nat.le_of_ble_eq_true rfl) dX3_hearReportsAt_61 ?_
              refine q_top (show (if nI (hrH (ndf bk set gon) wai wt hbd i) < nI (bk - pc (set i)) then nI (bk - pc (set i)) else nI (hrH (ndf bk set gon) wai wt hbd i)) = nI (max (hrH (ndf bk set gon) wai wt hbd i) (bk - pc (set i))) from nI_max (by omega) (by omega)) ?_
              refine lv_istore_n (lv' := [(3, .int (nI (max (hrH (ndf bk set gon) wai wt hbd i) (bk - pc (set i))))), (5, .int (nI (bk - pc (set i)))), (0, .ref (ad 0)), (1, .int (nI (wt))), (2, .int (nI (hbd))), (4, .int (nI (i)))]) hx hb dX3_hearReportsAt_64 rfl hl (by decide) rfl (fun ls hl => ?_)
              refine lv_goto (tgt := 78) hx hb dX3_hearReportsAt_65 (by decide) ?_
              refine lv_iinc (v := nI (i + 1)) (lv' := [(4, .int (nI (i + 1))), (3, .int (nI (max (hrH (ndf bk set gon) wai wt hbd i) (bk - pc (set i))))), (5, .int (nI (bk - pc (set i)))), (0, .ref (ad 0)), (1, .int (nI (wt))), (2, .int (nI (hbd)))]) hx hb dX3_hearReportsAt_78 hl (k := 5) rfl (show nI (i) + Int32.ofInt 1 = nI (i + 1) from nI_add (i) 1) (by decide) rfl (fun ls hl => ?_)
              refine lv_goto (tgt := 5) hx hb dX3_hearReportsAt_81 (by decide) ?_
              have eW : (wA cI cZ ad (pat) (sent) ((rep + hrR (ndf bk set gon) wai wt hbd i) + 1) (kept + hrK (ndf bk set gon) wai wt hbd i) (rc) (los) (wai) (set) (bad) (gon) (bk) (bp) (bv)) = (wA cI cZ ad (pat) (sent) (rep + hrR (ndf bk set gon) wai wt hbd (i + 1)) (kept + hrK (ndf bk set gon) wai wt hbd (i + 1)) (rc) (los) (wai) (set) (bad) (gon) (bk) (bp) (bv)) := by rw [eR, eK]; try rfl
              rw [eW] at hP hD
              clear eW
              exact ih5_1 (i + 1) (by omega) (by omega) _ _ hP hD hS ls (lv_sub hl [3, 4, 5, 1, 0] (by rw [eH]; rfl))
          · have h_28 : ¬ (gon i = 0 ∧ 0 < bk - pc (set i)) := h_28
            have hnd : ndf bk set gon i = 0 := by
              unfold ndf
              split <;> omega
            have eR : hrR (ndf bk set gon) wai wt hbd (i + 1) = hrR (ndf bk set gon) wai wt hbd i := if_neg (by omega)
            have eK : hrK (ndf bk set gon) wai wt hbd (i + 1) = hrK (ndf bk set gon) wai wt hbd i := if_neg (by omega)
            have eH : hrH (ndf bk set gon) wai wt hbd (i + 1) = hrH (ndf bk set gon) wai wt hbd i := if_neg (by omega)
            refine q_if_eq (u := ((0 : Nat) : Int)) (tgt := 78) hx hb dX3_hearReportsAt_31 (by decide) (nI_toInt (by omega)) (fun _ => ?_) (fun c_31 => absurd c_31 (by decide))
            refine lv_iinc (v := nI (i + 1)) (lv' := [(4, .int (nI (i + 1))), (0, .ref (ad 0)), (1, .int (nI (wt))), (2, .int (nI (hbd))), (3, .int (nI (hrH (ndf bk set gon) wai wt hbd i)))]) hx hb dX3_hearReportsAt_78 hl (k := 4) rfl (show nI (i) + Int32.ofInt 1 = nI (i + 1) from nI_add (i) 1) (by decide) rfl (fun ls hl => ?_)
            refine lv_goto (tgt := 5) hx hb dX3_hearReportsAt_81 (by decide) ?_
            have eW : (wA cI cZ ad (pat) (sent) (rep + hrR (ndf bk set gon) wai wt hbd i) (kept + hrK (ndf bk set gon) wai wt hbd i) (rc) (los) (wai) (set) (bad) (gon) (bk) (bp) (bv)) = (wA cI cZ ad (pat) (sent) (rep + hrR (ndf bk set gon) wai wt hbd (i + 1)) (kept + hrK (ndf bk set gon) wai wt hbd (i + 1)) (rc) (los) (wai) (set) (bad) (gon) (bk) (bp) (bv)) := by rw [eR, eK]; try rfl
            rw [eW] at hP hD
            clear eW
            exact ih5_1 (i + 1) (by omega) (by omega) _ _ hP hD hS ls (lv_sub hl [1, 2, 3, 4, 0] (by rw [eH]; rfl))
  have eW : (wA cI cZ ad (pat) (sent) (rep) (kept) (rc) (los) (wai) (set) (bad) (gon) (bk) (bp) (bv)) = (wA cI cZ ad (pat) (sent) (rep + hrR (ndf bk set gon) wai wt hbd 0) (kept + hrK (ndf bk set gon) wai wt hbd 0) (rc) (los) (wai) (set) (bad) (gon) (bk) (bp) (bv)) := by rfl
  rw [eW] at hP hD
  clear eW
  exact L5_1 _ (0) (Nat.lt_succ_self _) (by omega) _ _ hP hD hS ls (lv_sub hl [2, 3, 4, 1, 0] rfl)

set_option maxHeartbeats 4000000 in
set_option maxRecDepth 100000 in
theorem c_X3_hearReports (l : Launch) (D : va_G) (cI cZ cQ cL : ClassId) (ad : Nat → Nat) (pat : Nat) (sent : Nat) (rep : Nat) (kept : Nat) (rc : Nat) (los : Nat → Nat) (wai : Nat → Nat) (set : Nat → Nat) (bad : Nat → Nat) (gon : Nat → Nat) (bk : Nat) (bp : Nat → B8) (bv : Nat → B8) (sz : Nat) (hrc : rc ≤ 6) (hwai : ∀ r, r < 6 → wai r ≤ 20) (hset : ∀ r, r < 6 → set r < 65536) (hbk : bk ≤ 8) (hgon : ∀ r, r < 6 → gon r ≤ 1) : Met l yX3_hearReports wsX3_hearReports ({ frames := 4, cells := 0, slots := 0, locals := 87 } : Room) (PW D (TY cI cZ cQ cL) (wA cI cZ ad (pat) (sent) (rep) (kept) (rc) (los) (wai) (set) (bad) (gon) (bk) (bp) (bv)) sz [.ref (ad 0)]) (QI D (va_A (wA cI cZ ad (pat) (sent) (rep) (kept) (rc) (los) (wai) (set) (bad) (gon) (bk) (bp) (bv)) sz) (fun z9 (_ : Unit) => z9 = nI (rnH (ndf bk set gon) wai rc 21)) (fun _ => (wA cI cZ ad (pat) (sent) (rep + rnR (ndf bk set gon) wai rc 21) (kept + rnK (ndf bk set gon) wai rc 21) (rc) (los) (wai) (set) (bad) (gon) (bk) (bp) (bv)))) 0 0 (va_A (wA cI cZ ad (pat) (sent) (rep) (kept) (rc) (los) (wai) (set) (bad) (gon) (bk) (bp) (bv)) sz) := by
  refine Met.ofW (cc := cX3_hearReports) (maxL := 3) (ret := (some .int)) (by decide) rfl ?_
  intro p e s m args below meth c s₁ B hml hv
  obtain ⟨rfl, hsz, hP, hK, hD0, hN⟩ := hv
  have hx := B.exec
  have hb := B.bytes
  have hr := B.returns
  have hts := atoms_spec (ws := wsX3_hearReports) B.pre
  have hown : s.vm.findClass RX3 = some m.cls := findClass_of_methodNamed B.named
  have hlocks := B.notSynchronized
  subst hsz
  have hD := hD0.self (sz := s.heap.size)
  generalize hAe : va_A (wA cI cZ ad (pat) (sent) (rep) (kept) (rc) (los) (wai) (set) (bad) (gon) (bk) (bp) (bv)) s.heap.size = A at hD ⊢
  have hA : ∀ q : Nat, s.heap.size ≤ q → A q := fun q h => by rw [← hAe]; exact Or.inr h
  have hS : va_S A s.heap s.heap [] := va_S.rf
  have hl := lv_entry ([.ref (ad 0)]) (n := 3) (Nat.le_of_ble_eq_true rfl)
  rw [lg_entry_eq]
  generalize (lg_sl ([.ref (ad 0)]) ++ List.replicate (3 - (lg_sl ([.ref (ad 0)])).length) Slot.unset).toArray = ls at hl ⊢
  have hl : lv_has ls 3 [(0, .ref (ad 0))] := hl
  refine lv_iconst (v := nI (0)) hx hb dX3_hearReports_0 (by decide) ?_
  refine lv_istore_n (lv' := [(1, .int (nI (0))), (0, .ref (ad 0))]) hx hb dX3_hearReports_1 rfl hl (by decide) rfl (fun ls hl => ?_)
  refine lv_iconst (v := nI (0)) hx hb dX3_hearReports_2 (by decide) ?_
  refine lv_istore_n (lv' := [(2, .int (nI (0))), (1, .int (nI (0))), (0, .ref (ad 0))]) hx hb dX3_hearReports_3 rfl hl (by decide) rfl (fun ls hl => ?_)
  have L4_1 : ∀ (n4_1 : Nat) (w : Nat), 21 - w < n4_1 → (w ≤ 21) → ∀ (H : Heap) (locs : List Loc), va_P D vwCl (wA cI cZ ad (pat) (sent) (rep + rnR (ndf bk set gon) wai rc w) (kept + rnK (ndf bk set gon) wai rc w) (rc) (los) (wai) (set) (bad) (gon) (bk) (bp) (bv)) H → va_D A (wA cI cZ ad (pat) (sent) (rep + rnR (ndf bk set gon) wai rc w) (kept + rnK (ndf bk set gon) wai rc w) (rc) (los) (wai) (set) (bad) (gon) (bk) (bp) (bv)) → va_S A s.heap H locs → ∀ (ls : Array Slot), lv_has ls 3 [(0, .ref (ad 0)), (1, .int (nI (rnH (ndf bk set gon) wai rc w))), (2, .int (nI (w)))] → W p l e (headSpec wsX3_hearReports ({ frames := 4, cells := 0, slots := 0, locals := 87 } : Room)).room s m ([.ref (ad 0)] : List Value).toArray below meth c H locs 0 0 (MQ below (QI D A (fun z9 (_ : Unit) => z9 = nI (rnH (ndf bk set gon) wai rc 21)) (fun _ => (wA cI cZ ad (pat) (sent) (rep + rnR (ndf bk set gon) wai rc 21) (kept + rnK (ndf bk set gon) wai rc 21) (rc) (los) (wai) (set) (bad) (gon) (bk) (bp) (bv)))) ([.ref (ad 0)] : List Value).toArray s 0 0 A) (F0 m 4 ls []) := by
    intro n4_1
    induction n4_1 with
    | zero =>
      intro w hn4_1
      exact absurd hn4_1 (Nat.not_lt_zero _)
    | succ n4_1 ih4_1 =>
      intro w hn4_1 hw H locs hP hD hS ls hl
      refine lv_iload_n hx hb dX3_hearReports_4 rfl (lv_at hl 2 rfl) ?_
      refine lv_bipush (v := nI (20)) hx hb dX3_hearReports_5 (by decide) ?_
      refine q_icmp_gt (u := ((w : Nat) : Int)) (v := ((20 : Nat) : Int)) (tgt := 23) hx hb dX3_hearReports_7 (by decide) (nI_toInt (by omega)) (nI_toInt (by omega)) (fun c_7 => ?_) (fun c_7 => ?_)
      · obtain rfl : 21 = w := by omega
        refine lv_iload_n hx hb dX3_hearReports_23 rfl (lv_at hl 1 rfl) ?_
        have hP : va_P D vwCl (wA cI cZ ad (pat) (sent) (rep + rnR (ndf bk set gon) wai rc 21) (kept + rnK (ndf bk set gon) wai rc 21) (rc) (los) (wai) (set) (bad) (gon) (bk) (bp) (bv)) H := hP
        have hD : va_D A (wA cI cZ ad (pat) (sent) (rep + rnR (ndf bk set gon) wai rc 21) (kept + rnK (ndf bk set gon) wai rc 21) (rc) (los) (wai) (set) (bad) (gon) (bk) (bp) (bv)) := hD
        exact W.iret (v := nI (rnH (ndf bk set gon) wai rc 21)) hx hb hr (fun t ht hW => ⟨⟨_, (), rfl, (by rfl), by rw [ht]; exact hP, hD⟩, hS.F ht⟩) hS.2.2 dX3_hearReports_24
      · skip
        refine lv_aload_n hx hb dX3_hearReports_10 rfl (lv_at hl 0 rfl) ?_
        refine lv_iload_n hx hb dX3_hearReports_11 rfl (lv_at hl 2 rfl) ?_
        refine lv_iload_n hx hb dX3_hearReports_12 rfl (lv_at hl 1 rfl) ?_
        have hPc : va_P D vwCl (wA cI cZ ad (pat) (sent) ((rep + rnR (ndf bk set gon) wai rc w)) ((kept + rnK (ndf bk set gon) wai rc w)) (rc) (los) (wai) (set) (bad) (gon) (bk) (bp) (bv)) H := hP
        refine q_ci (wc := (wA cI cZ ad (pat) (sent) ((rep + rnR (ndf bk set gon) wai rc w)) ((kept + rnK (ndf bk set gon) wai rc w)) (rc) (los) (wai) (set) (bad) (gon) (bk) (bp) (bv))) (wr := []) (w1 := fun _ => (wA cI cZ ad (pat) (sent) ((rep + rnR (ndf bk set gon) wai rc w) + hrR (ndf bk set gon) wai w (rnH (ndf bk set gon) wai rc w) rc) ((kept + rnK (ndf bk set gon) wai rc w) + hrK (ndf bk set gon) wai w (rnH (ndf bk set gon) wai rc w) rc) (rc) (los) (wai) (set) (bad) (gon) (bk) (bp) (bv))) (va_runV (As := [.int (nI (w)), .int (nI (rnH (ndf bk set gon) wai rc w))]) (rest := []) ⟨hx, hb, hml, hown, hts⟩ (c_X3_hearReportsAt l D cI cZ cQ cL (ad) (pat) (sent) (rep + rnR (ndf bk set gon) wai rc w) (kept + rnK (ndf bk set gon) wai rc w) (rc) (los) (wai) (set) (bad) (gon) (bk) (bp) (bv) (w) (rnH (ndf bk set gon) wai rc w) H.size (hrc) (hwai) (hset) (hbk) (hgon) (by omega) (rnH_le (fun r _ => Nat.le_trans (ndf_le bk set gon r) hbk) w)) (cwV 2 hts gX3_hearReports_X3_hearReportsAt rfl rfl rfl ⟨rfl, hd_X3_hearReportsAt⟩ ⟨Nat.le_of_ble_eq_true rfl, Nat.le_of_ble_eq_true rfl⟩) (PW_v (q := (RX3, TX3, 13)) (ci := 2) (q0 := 0) hPc hK hD hN rfl rfl) rfl rfl hl.1 rfl (lv_room (Nat.le_of_ble_eq_true rfl)) dX3_hearReports_13 ⟨Nat.le_of_ble_eq_true rfl, Nat.le_of_ble_eq_true rfl⟩) hP hD hS hA [0, 1, 2, 3, 4, 5, 6, 7, 8] [] rfl rfl (by decide) (by decide) (fun r_13 u_13 H locs h_13 hP hD hS => ?_)
        have hP : va_P D vwCl (wA cI cZ ad (pat) (sent) ((rep + rnR (ndf bk set gon) wai rc w) + hrR (ndf bk set gon) wai w (rnH (ndf bk set gon) wai rc w) rc) ((kept + rnK (ndf bk set gon) wai rc w) + hrK (ndf bk set gon) wai w (rnH (ndf bk set gon) wai rc w) rc) (rc) (los) (wai) (set) (bad) (gon) (bk) (bp) (bv)) H := hP
        have hD : va_D A (wA cI cZ ad (pat) (sent) ((rep + rnR (ndf bk set gon) wai rc w) + hrR (ndf bk set gon) wai w (rnH (ndf bk set gon) wai rc w) rc) ((kept + rnK (ndf bk set gon) wai rc w) + hrK (ndf bk set gon) wai w (rnH (ndf bk set gon) wai rc w) rc) (rc) (los) (wai) (set) (bad) (gon) (bk) (bp) (bv)) := hD
        obtain rfl : r_13 = nI (hrH (ndf bk set gon) wai w (rnH (ndf bk set gon) wai rc w) rc) := h_13
        refine lv_istore_n (lv' := [(1, .int (nI (hrH (ndf bk set gon) wai w (rnH (ndf bk set gon) wai rc w) rc))), (0, .ref (ad 0)), (2, .int (nI (w)))]) hx hb dX3_hearReports_16 rfl hl (by decide) rfl (fun ls hl => ?_)
        refine lv_iinc (v := nI (w + 1)) (lv' := [(2, .int (nI (w + 1))), (1, .int (nI (hrH (ndf bk set gon) wai w (rnH (ndf bk set gon) wai rc w) rc))), (0, .ref (ad 0))]) hx hb dX3_hearReports_17 hl (k := 2) rfl (show nI (w) + Int32.ofInt 1 = nI (w + 1) from nI_add (w) 1) (by decide) rfl (fun ls hl => ?_)
        refine lv_goto (tgt := 4) hx hb dX3_hearReports_20 (by decide) ?_
        have eW : (wA cI cZ ad (pat) (sent) ((rep + rnR (ndf bk set gon) wai rc w) + hrR (ndf bk set gon) wai w (rnH (ndf bk set gon) wai rc w) rc) ((kept + rnK (ndf bk set gon) wai rc w) + hrK (ndf bk set gon) wai w (rnH (ndf bk set gon) wai rc w) rc) (rc) (los) (wai) (set) (bad) (gon) (bk) (bp) (bv)) = (wA cI cZ ad (pat) (sent) (rep + rnR (ndf bk set gon) wai rc (w + 1)) (kept + rnK (ndf bk set gon) wai rc (w + 1)) (rc) (los) (wai) (set) (bad) (gon) (bk) (bp) (bv)) := by simp only [rnR, rnK, Nat.add_assoc]
        rw [eW] at hP hD
        clear eW
        exact ih4_1 (w + 1) (by omega) (by omega) _ _ hP hD hS ls (lv_sub hl [2, 1, 0] rfl)
  have eW : (wA cI cZ ad (pat) (sent) (rep) (kept) (rc) (los) (wai) (set) (bad) (gon) (bk) (bp) (bv)) = (wA cI cZ ad (pat) (sent) (rep + rnR (ndf bk set gon) wai rc 0) (kept + rnK (ndf bk set gon) wai rc 0) (rc) (los) (wai) (set) (bad) (gon) (bk) (bp) (bv)) := by rfl
  rw [eW] at hP hD
  clear eW
  exact L4_1 _ (0) (Nat.lt_succ_self _) (by omega) _ _ hP hD hS ls (lv_sub hl [2, 1, 0] rfl)

theorem iwX3_countBadRounds_X3 : ∀ w ∈ wsX30, w ∈ wsX3_countBadRounds := by decide +kernel
set_option maxHeartbeats 4000000 in
set_option maxRecDepth 100000 in
theorem c_X3_countBadRounds (l : Launch) (D : va_G) (cI cZ cQ cL : ClassId) (ad : Nat → Nat) (pat : Nat) (sent : Nat) (rep : Nat) (kept : Nat) (rc : Nat) (los : Nat → Nat) (wai : Nat → Nat) (set : Nat → Nat) (bad : Nat → Nat) (gon : Nat → Nat) (bk : Nat) (bp : Nat → B8) (bv : Nat → B8) (sz : Nat) (hrc : rc ≤ 6) (hset : ∀ r, r < 6 → set r < 65536) (hbk : bk ≤ 8) (hgon : ∀ r, r < 6 → gon r ≤ 1) (hbad : ∀ r, r < 6 → bad r ≤ 20) (hpa : pat ≤ 20) : Met l yX3_countBadRounds wsX3_countBadRounds ({ frames := 3, cells := 0, slots := 0, locals := 62 } : Room) (PW D (TY cI cZ cQ cL) (wA cI cZ ad (pat) (sent) (rep) (kept) (rc) (los) (wai) (set) (bad) (gon) (bk) (bp) (bv)) sz [.ref (ad 0)]) (QV D (va_A (wA cI cZ ad (pat) (sent) (rep) (kept) (rc) (los) (wai) (set) (bad) (gon) (bk) (bp) (bv)) sz) (fun (_ : Unit) => True) (fun _ => (wA cI cZ ad (pat) (sent) (rep) (kept) (rc) (los) (wai) (set) (bdB rc bk set gon bad) (bdG rc bk pat set gon bad) (bk) (bp) (bv)))) 0 0 (va_A (wA cI cZ ad (pat) (sent) (rep) (kept) (rc) (los) (wai) (set) (bad) (gon) (bk) (bp) (bv)) sz) := by
  refine Met.ofW (cc := cX3_countBadRounds) (maxL := 2) (ret := none) (by decide) rfl ?_
  intro p e s m args below meth c s₁ B hml hv
  obtain ⟨rfl, hsz, hP, hK, hD0, hN⟩ := hv
  have hx := B.exec
  have hb := B.bytes
  have hr := B.returns
  have hts := atoms_spec (ws := wsX3_countBadRounds) B.pre
  have hown : s.vm.findClass RX3 = some m.cls := findClass_of_methodNamed B.named
  have hlocks := B.notSynchronized
  subst hsz
  have hD := hD0.self (sz := s.heap.size)
  generalize hAe : va_A (wA cI cZ ad (pat) (sent) (rep) (kept) (rc) (los) (wai) (set) (bad) (gon) (bk) (bp) (bv)) s.heap.size = A at hD ⊢
  have hA : ∀ q : Nat, s.heap.size ≤ q → A q := fun q h => by rw [← hAe]; exact Or.inr h
  have hS : va_S A s.heap s.heap [] := va_S.rf
  have hl := lv_entry ([.ref (ad 0)]) (n := 2) (Nat.le_of_ble_eq_true rfl)
  rw [lg_entry_eq]
  generalize (lg_sl ([.ref (ad 0)]) ++ List.replicate (2 - (lg_sl ([.ref (ad 0)])).length) Slot.unset).toArray = ls at hl ⊢
  have hl : lv_has ls 2 [(0, .ref (ad 0))] := hl
  refine lv_iconst (v := nI (0)) hx hb dX3_countBadRounds_0 (by decide) ?_
  refine lv_istore_n (lv' := [(1, .int (nI (0))), (0, .ref (ad 0))]) hx hb dX3_countBadRounds_1 rfl hl (by decide) rfl (fun ls hl => ?_)
  have L2_1 : ∀ (n2_1 : Nat) (i : Nat), rc - i < n2_1 → (i ≤ rc) → ∀ (H : Heap) (locs : List Loc), va_P D vwCl (wA cI cZ ad (pat) (sent) (rep) (kept) (rc) (los) (wai) (set) (bdB i bk set gon bad) (bdG i bk pat set gon bad) (bk) (bp) (bv)) H → va_D A (wA cI cZ ad (pat) (sent) (rep) (kept) (rc) (los) (wai) (set) (bdB i bk set gon bad) (bdG i bk pat set gon bad) (bk) (bp) (bv)) → va_S A s.heap H locs → ∀ (ls : Array Slot), lv_has ls 2 [(0, .ref (ad 0)), (1, .int (nI (i)))] → W p l e (headSpec wsX3_countBadRounds ({ frames := 3, cells := 0, slots := 0, locals := 62 } : Room)).room s m ([.ref (ad 0)] : List Value).toArray below meth c H locs 0 0 (MQ below (QV D A (fun (_ : Unit) => True) (fun _ => (wA cI cZ ad (pat) (sent) (rep) (kept) (rc) (los) (wai) (set) (bdB rc bk set gon bad) (bdG rc bk pat set gon bad) (bk) (bp) (bv)))) ([.ref (ad 0)] : List Value).toArray s 0 0 A) (F0 m 2 ls []) := by
    intro n2_1
    induction n2_1 with
    | zero =>
      intro i hn2_1
      exact absurd hn2_1 (Nat.not_lt_zero _)
    | succ n2_1 ih2_1 =>
      intro i hn2_1 hi H locs hP hD hS ls hl
      refine lv_iload_n hx hb dX3_countBadRounds_2 rfl (lv_at hl 1 rfl) ?_
      refine lv_aload_n hx hb dX3_countBadRounds_3 rfl (lv_at hl 0 rfl) ?_
      refine va_get (D := D) (ci := 2) (v := .int (nI (rc))) (C := RX3) (T := TX3) (N := 13) hx hb hts iwX3_countBadRounds_X3 hown hK hP 0 rfl rfl 5 (by decide) (hts (.fieldLink RX3 84 "RepairSender" "receiverCount" "I") (List.mem_of_getElem? (i := 1) rfl)) (fun _ h9 => h9) rfl dX3_countBadRounds_4 ?_
      refine q_icmp_ge (u := ((i : Nat) : Int)) (v := ((rc : Nat) : Int)) (tgt := 58) hx hb dX3_countBadRounds_7 (by decide) (nI_toInt (by omega)) (nI_toInt (by omega)) (fun c_7 => ?_) (fun c_7 => ?_)
      · obtain rfl : rc = i := by omega
        have hP : va_P D vwCl (wA cI cZ ad (pat) (sent) (rep) (kept) (rc) (los) (wai) (set) (bdB rc bk set gon bad) (bdG rc bk pat set gon bad) (bk) (bp) (bv)) H := hP
        have hD : va_D A (wA cI cZ ad (pat) (sent) (rep) (kept) (rc) (los) (wai) (set) (bdB rc bk set gon bad) (bdG rc bk pat set gon bad) (bk) (bp) (bv)) := hD
        exact W.vret hx hb hr (fun t ht hW => ⟨⟨(), rfl, trivial, by rw [ht]; exact hP, hD⟩, hS.F ht⟩) hS.2.2 dX3_countBadRounds_58
      · skip
        have hb6 := hbad i (by omega)
        refine lv_aload_n hx hb dX3_countBadRounds_10 rfl (lv_at hl 0 rfl) ?_
        refine lv_iload_n hx hb dX3_countBadRounds_11 rfl (lv_at hl 1 rfl) ?_
        have hPc : va_P D vwCl (wA cI cZ ad (pat) (sent) (rep) (kept) (rc) (los) (wai) (set) ((bdB i bk set gon bad)) ((bdG i bk pat set gon bad)) (bk) (bp) (bv)) H := hP
        refine q_csi (va_runV (As := [.int (nI (i))]) (rest := []) ⟨hx, hb, hml, hown, hts⟩ (c_X3_isLiveAndLacks l D cI cZ cQ cL (ad) (pat) (sent) (rep) (kept) (rc) (los) (wai) (set) (bdB i bk set gon bad) (bdG i bk pat set gon bad) (bk) (bp) (bv) (i) H.size (by omega) (hset) (hbk) (bdG_le hgon)) (cwV 1 hts gX3_countBadRounds_X3_isLiveAndLacks rfl rfl rfl ⟨rfl, hd_X3_isLiveAndLacks⟩ ⟨Nat.le_of_ble_eq_true rfl, Nat.le_of_ble_eq_true rfl⟩) (PW_v (q := (RX3, TX3, 13)) (ci := 2) (q0 := 0) hPc hK hD hN rfl rfl) rfl rfl hl.1 rfl (lv_room (Nat.le_of_ble_eq_true rfl)) dX3_countBadRounds_12 ⟨Nat.le_of_ble_eq_true rfl, Nat.le_of_ble_eq_true rfl⟩) (fun r_12 hr_12 => ?_)
        rcases hr_12 with ⟨rfl, h_12⟩ | ⟨rfl, h_12⟩
        · have h_12 : (bdG i bk pat set gon bad) i = 0 ∧ 0 < bk - pc (set i) := h_12
          rw [bdG_at] at h_12
          obtain ⟨h1, h2⟩ := h_12
          refine q_if_eq (u := ((1 : Nat) : Int)) (tgt := 52) hx hb dX3_countBadRounds_15 (by decide) (nI_toInt (by omega)) (fun c_15 => absurd c_15 (by decide)) (fun _ => ?_)
          refine lv_aload_n hx hb dX3_countBadRounds_18 rfl (lv_at hl 0 rfl) ?_
          refine va_get (D := D) (ci := 2) (v := .ref (ad 4)) (C := RX3) (T := TX3) (N := 13) hx hb hts iwX3_countBadRounds_X3 hown hK hP 0 rfl rfl 9 (by decide) (hts (.fieldLink RX3 26 "RepairSender" "badCounts" "[I") (List.mem_of_getElem? (i := 2) rfl)) (fun _ h9 => h9) rfl dX3_countBadRounds_19 ?_
          refine lv_iload_n hx hb dX3_countBadRounds_22 rfl (lv_at hl 1 rfl) ?_
          refine lv_dup2_11 hx hb dX3_countBadRounds_23 rfl rfl ?_
          refine q_iald (f := (bdB i bk set gon bad)) (j := i) hx hb hK hP 4 0 rfl rfl (by omega) (by decide) dX3_countBadRounds_24 ?_
          refine lv_iconst (v := nI (1)) hx hb dX3_countBadRounds_25 (by decide) ?_
          refine lv_iadd hx hb dX3_countBadRounds_26 ?_
          refine q_top (show (nI ((bdB i bk set gon bad) i) + nI (1)) = nI ((bdB i bk set gon bad) i + 1) from nI_add _ _) ?_
          refine q_iast (f := (bdB i bk set gon bad)) (j := i) (y := (bdB i bk set gon bad) i + 1) hx hb hK hP hD hS 4 0 rfl rfl (by omega) (by decide) dX3_countBadRounds_27 (fun H locs hP hD hS => ?_)
          have hP : va_P D vwCl (wA cI cZ ad (pat) (sent) (rep) (kept) (rc) (los) (wai) (set) (un (bdB i bk set gon bad) i ((bdB i bk set gon bad) i + 1)) (bdG i bk pat set gon bad) (bk) (bp) (bv)) H := hP
          have hD : va_D A (wA cI cZ ad (pat) (sent) (rep) (kept) (rc) (los) (wai) (set) (un (bdB i bk set gon bad) i ((bdB i bk set gon bad) i + 1)) (bdG i bk pat set gon bad) (bk) (bp) (bv)) := hD
          have eW : (wA cI cZ ad (pat) (sent) (rep) (kept) (rc) (los) (wai) (set) (un (bdB i bk set gon bad) i ((bdB i bk set gon bad) i + 1)) (bdG i bk pat set gon bad) (bk) (bp) (bv)) = (wA cI cZ ad (pat) (sent) (rep) (kept) (rc) (los) (wai) (set) (bdB (i + 1) bk set gon bad) (bdG i bk pat set gon bad) (bk) (bp) (bv)) := by rw [bdB_at, bdB_y h1 h2]
          rw [eW] at hP hD
          clear eW
          refine lv_aload_n hx hb dX3_countBadRounds_28 rfl (lv_at hl 0 rfl) ?_
          refine va_get (D := D) (ci := 2) (v := .ref (ad 5)) (C := RX3) (T := TX3) (N := 13) hx hb hts iwX3_countBadRounds_X3 hown hK hP 0 rfl rfl 10 (by decide) (hts (.fieldLink RX3 29 "RepairSender" "dropped" "[Z") (List.mem_of_getElem? (i := 3) rfl)) (fun _ h9 => h9) rfl dX3_countBadRounds_29 ?_
          refine lv_iload_n hx hb dX3_countBadRounds_32 rfl (lv_at hl 1 rfl) ?_
          refine lv_aload_n hx hb dX3_countBadRounds_33 rfl (lv_at hl 0 rfl) ?_
          have eB : bdB (i + 1) bk set gon bad i = bad i + 1 := if_pos ⟨by omega, h1, h2⟩
          refine va_get (D := D) (ci := 2) (v := .ref (ad 4)) (C := RX3) (T := TX3) (N := 13) hx hb hts iwX3_countBadRounds_X3 hown hK hP 0 rfl rfl 9 (by decide) (hts (.fieldLink RX3 26 "RepairSender" "badCounts" "[I") (List.mem_of_getElem? (i := 2) rfl)) (fun _ h9 => h9) rfl dX3_countBadRounds_34 ?_
          refine lv_iload_n hx hb dX3_countBadRounds_37 rfl (lv_at hl 1 rfl) ?_
          refine q_iald (f := (bdB (i + 1) bk set gon bad)) (j := i) hx hb hK hP 4 0 rfl rfl (by omega) (by decide) dX3_countBadRounds_38 ?_
          refine lv_aload_n hx hb dX3_countBadRounds_39 rfl (lv_at hl 0 rfl) ?_
          refine va_get (D := D) (ci := 2) (v := .int (nI (pat))) (C := RX3) (T := TX3) (N := 13) hx hb hts iwX3_countBadRounds_X3 hown hK hP 0 rfl rfl 1 (by decide) (hts (.fieldLink RX3 173 "RepairSender" "patience" "I") (List.mem_of_getElem? (i := 4) rfl)) (fun _ h9 => h9) rfl dX3_countBadRounds_40 ?_
          refine q_icmp_lt (u := (((bdB (i + 1) bk set gon bad) i : Nat) : Int)) (v := ((pat : Nat) : Int)) (tgt := 50) hx hb dX3_countBadRounds_43 (by decide) (nI_toInt (by omega)) (nI_toInt (by omega)) (fun c_43 => ?_) (fun c_43 => ?_)
          · have eG : un (bdG i bk pat set gon bad) i 0 = bdG (i + 1) bk pat set gon bad := by rw [← bdG_y h1 h2, if_neg (by omega)]
            refine lv_iconst (v := nI (0)) hx hb dX3_countBadRounds_50 (by decide) ?_
            refine q_zast (f := (bdG i bk pat set gon bad)) (j := i) (y := 0) hx hb hK hP hD hS 5 1 rfl rfl (by omega) (by decide) (by omega) dX3_countBadRounds_51 (fun H locs hP hD hS => ?_)
            have hP : va_P D vwCl (wA cI cZ ad (pat) (sent) (rep) (kept) (rc) (los) (wai) (set) (bdB (i + 1) bk set gon bad) (un (bdG i bk pat set gon bad) i 0) (bk) (bp) (bv)) H := hP
            have hD : va_D A (wA cI cZ ad (pat) (sent) (rep) (kept) (rc) (los) (wai) (set) (bdB (i + 1) bk set gon bad) (un (bdG i bk pat set gon bad) i 0) (bk) (bp) (bv)) := hD
            have eW : (wA cI cZ ad (pat) (sent) (rep) (kept) (rc) (los) (wai) (set) (bdB (i + 1) bk set gon bad) (un (bdG i bk pat set gon bad) i 0) (bk) (bp) (bv)) = (wA cI cZ ad (pat) (sent) (rep) (kept) (rc) (los) (wai) (set) (bdB (i + 1) bk set gon bad) (bdG (i + 1) bk pat set gon bad) (bk) (bp) (bv)) := by rw [eG]
            rw [eW] at hP hD
            clear eW
            refine lv_iinc (v := nI (i + 1)) (lv' := [(1, .int (nI (i + 1))), (0, .ref (ad 0))]) hx hb dX3_countBadRounds_52 hl (k := 1) rfl (show nI (i) + Int32.ofInt 1 = nI (i + 1) from nI_add (i) 1) (by decide) rfl (fun ls hl => ?_)
            refine lv_goto (tgt := 2) hx hb dX3_countBadRounds_55 (by decide) ?_
            have eW : (wA cI cZ ad (pat) (sent) (rep) (kept) (rc) (los) (wai) (set) (bdB (i + 1) bk set gon bad) (bdG (i + 1) bk pat set gon bad) (bk) (bp) (bv)) = (wA cI cZ ad (pat) (sent) (rep) (kept) (rc) (los) (wai) (set) (bdB (i + 1) bk set gon bad) (bdG (i + 1) bk pat set gon bad) (bk) (bp) (bv)) := by first | rfl | rw [bdB_n h_12, bdG_n h_12]
            rw [eW] at hP hD
            clear eW
            exact ih2_1 (i + 1) (by omega) (by omega) _ _ hP hD hS ls (lv_sub hl [1, 0] rfl)
          · have eG : un (bdG i bk pat set gon bad) i 1 = bdG (i + 1) bk pat set gon bad := by rw [← bdG_y h1 h2, if_pos (by omega)]
            refine lv_iconst (v := nI (1)) hx hb dX3_countBadRounds_46 (by decide) ?_
            refine lv_goto (tgt := 51) hx hb dX3_countBadRounds_47 (by decide) ?_
            refine q_zast (f := (bdG i bk pat set gon bad)) (j := i) (y := 1) hx hb hK hP hD hS 5 1 rfl rfl (by omega) (by decide) (by omega) dX3_countBadRounds_51 (fun H locs hP hD hS => ?_)
            have hP : va_P D vwCl (wA cI cZ ad (pat) (sent) (rep) (kept) (rc) (los) (wai) (set) (bdB (i + 1) bk set gon bad) (un (bdG i bk pat set gon bad) i 1) (bk) (bp) (bv)) H := hP
            have hD : va_D A (wA cI cZ ad (pat) (sent) (rep) (kept) (rc) (los) (wai) (set) (bdB (i + 1) bk set gon bad) (un (bdG i bk pat set gon bad) i 1) (bk) (bp) (bv)) := hD
            have eW : (wA cI cZ ad (pat) (sent) (rep) (kept) (rc) (los) (wai) (set) (bdB (i + 1) bk set gon bad) (un (bdG i bk pat set gon bad) i 1) (bk) (bp) (bv)) = (wA cI cZ ad (pat) (sent) (rep) (kept) (rc) (los) (wai) (set) (bdB (i + 1) bk set gon bad) (bdG (i + 1) bk pat set gon bad) (bk) (bp) (bv)) := by rw [eG]
            rw [eW] at hP hD
            clear eW
            refine lv_iinc (v := nI (i + 1)) (lv' := [(1, .int (nI (i + 1))), (0, .ref (ad 0))]) hx hb dX3_countBadRounds_52 hl (k := 1) rfl (show nI (i) + Int32.ofInt 1 = nI (i + 1) from nI_add (i) 1) (by decide) rfl (fun ls hl => ?_)
            refine lv_goto (tgt := 2) hx hb dX3_countBadRounds_55 (by decide) ?_
            have eW : (wA cI cZ ad (pat) (sent) (rep) (kept) (rc) (los) (wai) (set) (bdB (i + 1) bk set gon bad) (bdG (i + 1) bk pat set gon bad) (bk) (bp) (bv)) = (wA cI cZ ad (pat) (sent) (rep) (kept) (rc) (los) (wai) (set) (bdB (i + 1) bk set gon bad) (bdG (i + 1) bk pat set gon bad) (bk) (bp) (bv)) := by first | rfl | rw [bdB_n h_12, bdG_n h_12]
            rw [eW] at hP hD
            clear eW
            exact ih2_1 (i + 1) (by omega) (by omega) _ _ hP hD hS ls (lv_sub hl [1, 0] rfl)
        · have h_12 : ¬ ((bdG i bk pat set gon bad) i = 0 ∧ 0 < bk - pc (set i)) := h_12
          rw [bdG_at] at h_12
          refine q_if_eq (u := ((0 : Nat) : Int)) (tgt := 52) hx hb dX3_countBadRounds_15 (by decide) (nI_toInt (by omega)) (fun _ => ?_) (fun c_15 => absurd c_15 (by decide))
          refine lv_iinc (v := nI (i + 1)) (lv' := [(1, .int (nI (i + 1))), (0, .ref (ad 0))]) hx hb dX3_countBadRounds_52 hl (k := 1) rfl (show nI (i) + Int32.ofInt 1 = nI (i + 1) from nI_add (i) 1) (by decide) rfl (fun ls hl => ?_)
          refine lv_goto (tgt := 2) hx hb dX3_countBadRounds_55 (by decide) ?_
          have eW : (wA cI cZ ad (pat) (sent) (rep) (kept) (rc) (los) (wai) (set) (bdB i bk set gon bad) (bdG i bk pat set gon bad) (bk) (bp) (bv)) = (wA cI cZ ad (pat) (sent) (rep) (kept) (rc) (los) (wai) (set) (bdB (i + 1) bk set gon bad) (bdG (i + 1) bk pat set gon bad) (bk) (bp) (bv)) := by first | rfl | rw [bdB_n h_12, bdG_n h_12]
          rw [eW] at hP hD
          clear eW
          exact ih2_1 (i + 1) (by omega) (by omega) _ _ hP hD hS ls (lv_sub hl [1, 0] rfl)
  have eW : (wA cI cZ ad (pat) (sent) (rep) (kept) (rc) (los) (wai) (set) (bad) (gon) (bk) (bp) (bv)) = (wA cI cZ ad (pat) (sent) (rep) (kept) (rc) (los) (wai) (set) (bdB 0 bk set gon bad) (bdG 0 bk pat set gon bad) (bk) (bp) (bv)) := by rw [bdB_0, bdG_0]
  rw [eW] at hP hD
  clear eW
  exact L2_1 _ (0) (Nat.lt_succ_self _) (by omega) _ _ hP hD hS ls (lv_sub hl [1, 0] rfl)

theorem iwX3_startBlock_X3 : ∀ w ∈ wsX30, w ∈ wsX3_startBlock := by decide +kernel
set_option maxHeartbeats 4000000 in
set_option maxRecDepth 100000 in
theorem c_X3_startBlock (l : Launch) (D : va_G) (cI cZ cQ cL : ClassId) (ad : Nat → Nat) (pat : Nat) (sent : Nat) (rep : Nat) (kept : Nat) (rc : Nat) (los : Nat → Nat) (wai : Nat → Nat) (set : Nat → Nat) (bad : Nat → Nat) (gon : Nat → Nat) (bk : Nat) (bp : Nat → B8) (bv : Nat → B8) (k0 : Nat) (pt0 : Nat) (sz : Nat) (hk0 : k0 ≤ 8) : Met l yX3_startBlock wsX3_startBlock ({ frames := 1, cells := 0, slots := 0, locals := 22 } : Room) (PW D (TY cI cZ cQ cL) (wA cI cZ ad (pat) (sent) (rep) (kept) (rc) (los) (wai) (set) (bad) (gon) (bk) (bp) (bv)) sz [.ref (ad 0), .int (nI (k0)), .int (nI (pt0))]) (QV D (va_A (wA cI cZ ad (pat) (sent) (rep) (kept) (rc) (los) (wai) (set) (bad) (gon) (bk) (bp) (bv)) sz) (fun (_ : Unit) => True) (fun _ => (wA cI cZ ad (pt0) (0) (0) (0) (0) (los) (wai) (set) (bad) (gon) (k0) (idp k0 bp) (zrv k0 bv)))) 0 0 (va_A (wA cI cZ ad (pat) (sent) (rep) (kept) (rc) (los) (wai) (set) (bad) (gon) (bk) (bp) (bv)) sz) := by
  refine Met.ofW (cc := cX3_startBlock) (maxL := 4) (ret := none) (by decide) rfl ?_
  intro p e s m args below meth c s₁ B hml hv
  obtain ⟨rfl, hsz, hP, hK, hD0, hN⟩ := hv
  have hx := B.exec
  have hb := B.bytes
  have hr := B.returns
  have hts := atoms_spec (ws := wsX3_startBlock) B.pre
  have hown : s.vm.findClass RX3 = some m.cls := findClass_of_methodNamed B.named
  have hlocks := B.notSynchronized
  subst hsz
  have hD := hD0.self (sz := s.heap.size)
  generalize hAe : va_A (wA cI cZ ad (pat) (sent) (rep) (kept) (rc) (los) (wai) (set) (bad) (gon) (bk) (bp) (bv)) s.heap.size = A at hD ⊢
  have hA : ∀ q : Nat, s.heap.size ≤ q → A q := fun q h => by rw [← hAe]; exact Or.inr h
  have hS : va_S A s.heap s.heap [] := va_S.rf
  have hl := lv_entry ([.ref (ad 0), .int (nI (k0)), .int (nI (pt0))]) (n := 4) (Nat.le_of_ble_eq_true rfl)
  rw [lg_entry_eq]
  generalize (lg_sl ([.ref (ad 0), .int (nI (k0)), .int (nI (pt0))]) ++ List.replicate (4 - (lg_sl ([.ref (ad 0), .int (nI (k0)), .int (nI (pt0))])).length) Slot.unset).toArray = ls at hl ⊢
  have hl : lv_has ls 4 [(0, .ref (ad 0)), (1, .int (nI (k0))), (2, .int (nI (pt0)))] := hl
  refine lv_aload_n hx hb dX3_startBlock_0 rfl (lv_at hl 0 rfl) ?_
  refine va_get (D := D) (ci := 2) (v := .ref (ad 6)) (C := RX3) (T := TX3) (N := 13) hx hb hts iwX3_startBlock_X3 hown hK hP 0 rfl rfl 0 (by decide) (hts (.fieldLink RX3 10 "RepairSender" "block" "LRepairSender$Points;") (List.mem_of_getElem? (i := 1) rfl)) (fun _ h9 => h9) rfl dX3_startBlock_1 ?_
  have hPc := hP.sub (ws' := (wPt cI ((ad 6)) ((ad 7)) ((ad 8)) (bk) (bp) (bv))) [6, 7, 8] rfl
  have hDc := hD.sub (ws' := (wPt cI ((ad 6)) ((ad 7)) ((ad 8)) (bk) (bp) (bv))) [6, 7, 8] (by decide) rfl
  refine q_cv (wc := (wPt cI ((ad 6)) ((ad 7)) ((ad 8)) (bk) (bp) (bv))) (wr := (([0, 1, 2, 3, 4, 5] : List Nat).filterMap (fun i => (wA cI cZ ad (pat) (sent) (rep) (kept) (rc) (los) (wai) (set) (bad) (gon) (bk) (bp) (bv))[i]?))) (w1 := fun _ => (wPt cI ((ad 6)) ((ad 7)) ((ad 8)) (0) (bp) (bv))) (va_runVN (As := []) (rest := []) ⟨hx, hb, hml, hown, hts⟩ (c_X2_clear l D cI cZ cQ cL (ad 6) (ad 7) (ad 8) (bk) (bp) (bv) s.heap.size ) ⟨va_cnB 0 hts gX3_startBlock_X2_clear_n167 rfl rfl rfl (hN _ (List.mem_of_getElem? (i := 7) rfl)) (hts (.initialized RX2) (List.mem_of_getElem? (i := 8) rfl)) hd_X2_clear ⟨Nat.le_of_ble_eq_true rfl, Nat.le_of_ble_eq_true rfl⟩, (hts (.instanceMethod yX2_clear) (List.mem_of_getElem? (i := 7) rfl)), (hts (.selects RX2 yX2_clear yX2_clear) (List.mem_of_getElem? (i := 9) rfl))⟩ (PW_v (q := (RX2, TX2, 3)) (ci := 1) (q0 := 0) hPc hK hDc hN rfl rfl) rfl rfl hl.1 rfl (lv_room (Nat.le_of_ble_eq_true rfl)) dX3_startBlock_4 ⟨Nat.le_of_ble_eq_true rfl, Nat.le_of_ble_eq_true rfl⟩) hP hD hS hA [6, 7, 8] [0, 1, 2, 3, 4, 5] rfl rfl (by decide) (by decide) (fun u_4 H locs h_4 hP hD hS => ?_)
  have hP := hP.sub (ws' := (wA cI cZ ad (pat) (sent) (rep) (kept) (rc) (los) (wai) (set) (bad) (gon) (0) (bp) (bv))) [0, 1, 2, 3, 4, 5, 6, 7, 8] rfl
  have hD := hD.sub (ws' := (wA cI cZ ad (pat) (sent) (rep) (kept) (rc) (los) (wai) (set) (bad) (gon) (0) (bp) (bv))) [0, 1, 2, 3, 4, 5, 6, 7, 8] (by decide) rfl
  refine lv_iconst (v := nI (0)) hx hb dX3_startBlock_7 (by decide) ?_
  refine lv_istore_n (lv' := [(3, .int (nI (0))), (0, .ref (ad 0)), (1, .int (nI (k0))), (2, .int (nI (pt0)))]) hx hb dX3_startBlock_8 rfl hl (by decide) rfl (fun ls hl => ?_)
  have L9_1 : ∀ (n9_1 : Nat) (i : Nat), k0 - i < n9_1 → (i ≤ k0) → ∀ (H : Heap) (locs : List Loc), va_P D vwCl (wA cI cZ ad (pat) (sent) (rep) (kept) (rc) (los) (wai) (set) (bad) (gon) (i) (idp i bp) (zrv i bv)) H → va_D A (wA cI cZ ad (pat) (sent) (rep) (kept) (rc) (los) (wai) (set) (bad) (gon) (i) (idp i bp) (zrv i bv)) → va_S A s.heap H locs → ∀ (ls : Array Slot), lv_has ls 4 [(0, .ref (ad 0)), (1, .int (nI (k0))), (2, .int (nI (pt0))), (3, .int (nI (i)))] → W p l e (headSpec wsX3_startBlock ({ frames := 1, cells := 0, slots := 0, locals := 22 } : Room)).room s m ([.ref (ad 0), .int (nI (k0)), .int (nI (pt0))] : List Value).toArray below meth c H locs 0 0 (MQ below (QV D A (fun (_ : Unit) => True) (fun _ => (wA cI cZ ad (pt0) (0) (0) (0) (0) (los) (wai) (set) (bad) (gon) (k0) (idp k0 bp) (zrv k0 bv)))) ([.ref (ad 0), .int (nI (k0)), .int (nI (pt0))] : List Value).toArray s 0 0 A) (F0 m 9 ls []) := by
    intro n9_1
    induction n9_1 with
    | zero =>
      intro i hn9_1
      exact absurd hn9_1 (Nat.not_lt_zero _)
    | succ n9_1 ih9_1 =>
      intro i hn9_1 hi H locs hP hD hS ls hl
      refine lv_iload_n hx hb dX3_startBlock_9 rfl (lv_at hl 3 rfl) ?_
      refine lv_iload_n hx hb dX3_startBlock_10 rfl (lv_at hl 1 rfl) ?_
      refine q_icmp_ge (u := ((i : Nat) : Int)) (v := ((k0 : Nat) : Int)) (tgt := 29) hx hb dX3_startBlock_11 (by decide) (nI_toInt (by omega)) (nI_toInt (by omega)) (fun c_11 => ?_) (fun c_11 => ?_)
      · obtain rfl : k0 = i := by omega
        refine lv_aload_n hx hb dX3_startBlock_29 rfl (lv_at hl 0 rfl) ?_
        refine lv_iload_n hx hb dX3_startBlock_30 rfl (lv_at hl 2 rfl) ?_
        refine va_put (D := D) (ci := 2) (v := .int (nI (pt0))) (ty := .int) (C := RX3) (T := TX3) (N := 13) hx hb hts iwX3_startBlock_X3 tyX3 tyX3_ok nmX3 hown hK hP hD hS 0 rfl rfl 1 (by decide) (hts (.fieldLink RX3 173 "RepairSender" "patience" "I") (List.mem_of_getElem? (i := 2) rfl)) (fun _ h9 => h9) rfl (by decide +kernel) rfl rfl (Nat.le_of_ble_eq_true rfl) dX3_startBlock_31 (fun H locs hP hD hS => ?_)
        have hP : va_P D vwCl (wA cI cZ ad (pt0) (sent) (rep) (kept) (rc) (los) (wai) (set) (bad) (gon) (k0) (idp k0 bp) (zrv k0 bv)) H := hP
        have hD : va_D A (wA cI cZ ad (pt0) (sent) (rep) (kept) (rc) (los) (wai) (set) (bad) (gon) (k0) (idp k0 bp) (zrv k0 bv)) := hD
        refine lv_aload_n hx hb dX3_startBlock_34 rfl (lv_at hl 0 rfl) ?_
        refine lv_iconst (v := nI (0)) hx hb dX3_startBlock_35 (by decide) ?_
        refine va_put (D := D) (ci := 2) (v := .int (nI (0))) (ty := .int) (C := RX3) (T := TX3) (N := 13) hx hb hts iwX3_startBlock_X3 tyX3 tyX3_ok nmX3 hown hK hP hD hS 0 rfl rfl 5 (by decide) (hts (.fieldLink RX3 84 "RepairSender" "receiverCount" "I") (List.mem_of_getElem? (i := 3) rfl)) (fun _ h9 => h9) rfl (by decide +kernel) rfl rfl (Nat.le_of_ble_eq_true rfl) dX3_startBlock_36 (fun H locs hP hD hS => ?_)
        have hP : va_P D vwCl (wA cI cZ ad (pt0) (sent) (rep) (kept) (0) (los) (wai) (set) (bad) (gon) (k0) (idp k0 bp) (zrv k0 bv)) H := hP
        have hD : va_D A (wA cI cZ ad (pt0) (sent) (rep) (kept) (0) (los) (wai) (set) (bad) (gon) (k0) (idp k0 bp) (zrv k0 bv)) := hD
        refine lv_aload_n hx hb dX3_startBlock_39 rfl (lv_at hl 0 rfl) ?_
        refine lv_iconst (v := nI (0)) hx hb dX3_startBlock_40 (by decide) ?_
        refine va_put (D := D) (ci := 2) (v := .int (nI (0))) (ty := .int) (C := RX3) (T := TX3) (N := 13) hx hb hts iwX3_startBlock_X3 tyX3 tyX3_ok nmX3 hown hK hP hD hS 0 rfl rfl 2 (by decide) (hts (.fieldLink RX3 56 "RepairSender" "sentCount" "I") (List.mem_of_getElem? (i := 4) rfl)) (fun _ h9 => h9) rfl (by decide +kernel) rfl rfl (Nat.le_of_ble_eq_true rfl) dX3_startBlock_41 (fun H locs hP hD hS => ?_)
        have hP : va_P D vwCl (wA cI cZ ad (pt0) (0) (rep) (kept) (0) (los) (wai) (set) (bad) (gon) (k0) (idp k0 bp) (zrv k0 bv)) H := hP
        have hD : va_D A (wA cI cZ ad (pt0) (0) (rep) (kept) (0) (los) (wai) (set) (bad) (gon) (k0) (idp k0 bp) (zrv k0 bv)) := hD
        refine lv_aload_n hx hb dX3_startBlock_44 rfl (lv_at hl 0 rfl) ?_
        refine lv_iconst (v := nI (0)) hx hb dX3_startBlock_45 (by decide) ?_
        refine va_put (D := D) (ci := 2) (v := .int (nI (0))) (ty := .int) (C := RX3) (T := TX3) (N := 13) hx hb hts iwX3_startBlock_X3 tyX3 tyX3_ok nmX3 hown hK hP hD hS 0 rfl rfl 3 (by decide) (hts (.fieldLink RX3 111 "RepairSender" "reportCount" "I") (List.mem_of_getElem? (i := 5) rfl)) (fun _ h9 => h9) rfl (by decide +kernel) rfl rfl (Nat.le_of_ble_eq_true rfl) dX3_startBlock_46 (fun H locs hP hD hS => ?_)
        have hP : va_P D vwCl (wA cI cZ ad (pt0) (0) (0) (kept) (0) (los) (wai) (set) (bad) (gon) (k0) (idp k0 bp) (zrv k0 bv)) H := hP
        have hD : va_D A (wA cI cZ ad (pt0) (0) (0) (kept) (0) (los) (wai) (set) (bad) (gon) (k0) (idp k0 bp) (zrv k0 bv)) := hD
        refine lv_aload_n hx hb dX3_startBlock_49 rfl (lv_at hl 0 rfl) ?_
        refine lv_iconst (v := nI (0)) hx hb dX3_startBlock_50 (by decide) ?_
        refine va_put (D := D) (ci := 2) (v := .int (nI (0))) (ty := .int) (C := RX3) (T := TX3) (N := 13) hx hb hts iwX3_startBlock_X3 tyX3 tyX3_ok nmX3 hown hK hP hD hS 0 rfl rfl 4 (by decide) (hts (.fieldLink RX3 114 "RepairSender" "keptBackCount" "I") (List.mem_of_getElem? (i := 6) rfl)) (fun _ h9 => h9) rfl (by decide +kernel) rfl rfl (Nat.le_of_ble_eq_true rfl) dX3_startBlock_51 (fun H locs hP hD hS => ?_)
        have hP : va_P D vwCl (wA cI cZ ad (pt0) (0) (0) (0) (0) (los) (wai) (set) (bad) (gon) (k0) (idp k0 bp) (zrv k0 bv)) H := hP
        have hD : va_D A (wA cI cZ ad (pt0) (0) (0) (0) (0) (los) (wai) (set) (bad) (gon) (k0) (idp k0 bp) (zrv k0 bv)) := hD
        have hP : va_P D vwCl (wA cI cZ ad (pt0) (0) (0) (0) (0) (los) (wai) (set) (bad) (gon) (k0) (idp k0 bp) (zrv k0 bv)) H := hP
        have hD : va_D A (wA cI cZ ad (pt0) (0) (0) (0) (0) (los) (wai) (set) (bad) (gon) (k0) (idp k0 bp) (zrv k0 bv)) := hD
        exact W.vret hx hb hr (fun t ht hW => ⟨⟨(), rfl, trivial, by rw [ht]; exact hP, hD⟩, hS.F ht⟩) hS.2.2 dX3_startBlock_54
      · skip
        refine lv_aload_n hx hb dX3_startBlock_14 rfl (lv_at hl 0 rfl) ?_
        refine va_get (D := D) (ci := 2) (v := .ref (ad 6)) (C := RX3) (T := TX3) (N := 13) hx hb hts iwX3_startBlock_X3 hown hK hP 0 rfl rfl 0 (by decide) (hts (.fieldLink RX3 10 "RepairSender" "block" "LRepairSender$Points;") (List.mem_of_getElem? (i := 1) rfl)) (fun _ h9 => h9) rfl dX3_startBlock_15 ?_
        refine lv_iload_n hx hb dX3_startBlock_18 rfl (lv_at hl 3 rfl) ?_
        refine q_top (show nI (i) = bI (BitVec.ofNat 8 i) from bI_of (by omega)) ?_
        refine lv_iconst (v := nI (0)) hx hb dX3_startBlock_19 (by decide) ?_
        refine q_top (show nI (0) = bI (0) from rfl) ?_
        have hPc := hP.sub (ws' := (wPt cI ((ad 6)) ((ad 7)) ((ad 8)) (i) ((idp i bp)) ((zrv i bv)))) [6, 7, 8] rfl
        have hDc := hD.sub (ws' := (wPt cI ((ad 6)) ((ad 7)) ((ad 8)) (i) ((idp i bp)) ((zrv i bv)))) [6, 7, 8] (by decide) rfl
        refine q_cv (wc := (wPt cI ((ad 6)) ((ad 7)) ((ad 8)) (i) ((idp i bp)) ((zrv i bv)))) (wr := (([0, 1, 2, 3, 4, 5] : List Nat).filterMap (fun i => (wA cI cZ ad (pat) (sent) (rep) (kept) (rc) (los) (wai) (set) (bad) (gon) (i) (idp i bp) (zrv i bv))[i]?))) (w1 := fun _ => (wPt cI ((ad 6)) ((ad 7)) ((ad 8)) (i + 1) (ub (idp i bp) i (BitVec.ofNat 8 i)) (ub (zrv i bv) i 0))) (va_runVN (As := [.int (bI (BitVec.ofNat 8 i)), .int (bI (0))]) (rest := []) ⟨hx, hb, hml, hown, hts⟩ (c_X2_add l D cI cZ cQ cL (ad 6) (ad 7) (ad 8) (i) (idp i bp) (zrv i bv) (BitVec.ofNat 8 i) (0) H.size (by omega)) ⟨va_cnB 2 hts gX3_startBlock_X2_add_n170 rfl rfl rfl (hN _ (List.mem_of_getElem? (i := 8) rfl)) (hts (.initialized RX2) (List.mem_of_getElem? (i := 8) rfl)) hd_X2_add ⟨Nat.le_of_ble_eq_true rfl, Nat.le_of_ble_eq_true rfl⟩, (hts (.instanceMethod yX2_add) (List.mem_of_getElem? (i := 12) rfl)), (hts (.selects RX2 yX2_add yX2_add) (List.mem_of_getElem? (i := 13) rfl))⟩ (PW_v (q := (RX2, TX2, 3)) (ci := 1) (q0 := 0) hPc hK hDc hN rfl rfl) rfl rfl hl.1 rfl (lv_room (Nat.le_of_ble_eq_true rfl)) dX3_startBlock_20 ⟨Nat.le_of_ble_eq_true rfl, Nat.le_of_ble_eq_true rfl⟩) hP hD hS hA [6, 7, 8] [0, 1, 2, 3, 4, 5] rfl rfl (by decide) (by decide) (fun u_20 H locs h_20 hP hD hS => ?_)
        have hP := hP.sub (ws' := (wA cI cZ ad (pat) (sent) (rep) (kept) (rc) (los) (wai) (set) (bad) (gon) (i + 1) (ub (idp i bp) i (BitVec.ofNat 8 i)) (ub (zrv i bv) i 0))) [0, 1, 2, 3, 4, 5, 6, 7, 8] rfl
        have hD := hD.sub (ws' := (wA cI cZ ad (pat) (sent) (rep) (kept) (rc) (los) (wai) (set) (bad) (gon) (i + 1) (ub (idp i bp) i (BitVec.ofNat 8 i)) (ub (zrv i bv) i 0))) [0, 1, 2, 3, 4, 5, 6, 7, 8] (by decide) rfl
        refine lv_iinc (v := nI (i + 1)) (lv' := [(3, .int (nI (i + 1))), (0, .ref (ad 0)), (1, .int (nI (k0))), (2, .int (nI (pt0)))]) hx hb dX3_startBlock_23 hl (k := 3) rfl (show nI (i) + Int32.ofInt 1 = nI (i + 1) from nI_add (i) 1) (by decide) rfl (fun ls hl => ?_)
        refine lv_goto (tgt := 9) hx hb dX3_startBlock_26 (by decide) ?_
        have eW : (wA cI cZ ad (pat) (sent) (rep) (kept) (rc) (los) (wai) (set) (bad) (gon) (i + 1) (ub (idp i bp) i (BitVec.ofNat 8 i)) (ub (zrv i bv) i 0)) = (wA cI cZ ad (pat) (sent) (rep) (kept) (rc) (los) (wai) (set) (bad) (gon) ((i + 1)) (idp (i + 1) bp) (zrv (i + 1) bv)) := by rw [idp_s, zrv_s]
        rw [eW] at hP hD
        clear eW
        exact ih9_1 (i + 1) (by omega) (by omega) _ _ hP hD hS ls (lv_sub hl [1, 2, 3, 0] rfl)
  have eW : (wA cI cZ ad (pat) (sent) (rep) (kept) (rc) (los) (wai) (set) (bad) (gon) (0) (bp) (bv)) = (wA cI cZ ad (pat) (sent) (rep) (kept) (rc) (los) (wai) (set) (bad) (gon) (0) (idp 0 bp) (zrv 0 bv)) := by rw [idp_0, zrv_0]
  rw [eW] at hP hD
  clear eW
  exact L9_1 _ (0) (Nat.lt_succ_self _) (by omega) _ _ hP hD hS ls (lv_sub hl [1, 2, 3, 0] rfl)

theorem iwX3_chooseIfWanted_X3 : ∀ w ∈ wsX30, w ∈ wsX3_chooseIfWanted := by decide +kernel
theorem iwX3_chooseIfWanted_X2 : ∀ w ∈ wsX20, w ∈ wsX3_chooseIfWanted := by decide +kernel
set_option maxHeartbeats 4000000 in
set_option maxRecDepth 100000 in
theorem c_X3_chooseIfWanted (l : Launch) (D : va_G) (cI cZ cQ cL : ClassId) (ad : Nat → Nat) (pat : Nat) (sent : Nat) (rep : Nat) (kept : Nat) (rc : Nat) (los : Nat → Nat) (wai : Nat → Nat) (set : Nat → Nat) (bad : Nat → Nat) (gon : Nat → Nat) (bk : Nat) (bp : Nat → B8) (bv : Nat → B8) (ck : Nat) (cp : Nat → B8) (cv : Nat → B8) (ek : Nat) (em : Nat → Nat → B8) (q0 : Nat) (nu : Nat) (sz : Nat) (hq : q0 < 65536) (hnu : nu < 16) (hck : ck ≤ bk) (hbk : bk ≤ 8) : Met l yX3_chooseIfWanted wsX3_chooseIfWanted ({ frames := 4, cells := 0, slots := 0, locals := 95 } : Room) (PW D (TY cI cZ cQ cL) (wF cI cZ cQ ad (pat) (sent) (rep) (kept) (rc) (los) (wai) (set) (bad) (gon) (bk) (bp) (bv) (ck) (cp) (cv) (ek) (em)) sz [.ref (ad 0), .int (nI (q0)), .int (nI (nu))]) (QV D (va_A (wF cI cZ cQ ad (pat) (sent) (rep) (kept) (rc) (los) (wai) (set) (bad) (gon) (bk) (bp) (bv) (ck) (cp) (cv) (ek) (em)) sz) (fun (_ : Unit) => True) (fun _ => (wF cI cZ cQ ad (pat) (sent) (rep) (kept) (rc) (los) (wai) (set) (bad) (gon) (bk) (bp) (bv) (if q0 / 2 ^ nu % 2 = 1 ∧ ck < bk then ck + 1 else ck) (if q0 / 2 ^ nu % 2 = 1 ∧ ck < bk then ub cp ck (BitVec.ofNat 8 nu) else cp) (if q0 / 2 ^ nu % 2 = 1 ∧ ck < bk then ub cv ck (lag bk bp bv (BitVec.ofNat 8 nu)) else cv) (ek) (em)))) 0 0 (va_A (wF cI cZ cQ ad (pat) (sent) (rep) (kept) (rc) (los) (wai) (set) (bad) (gon) (bk) (bp) (bv) (ck) (cp) (cv) (ek) (em)) sz) := by
  refine Met.ofW (cc := cX3_chooseIfWanted) (maxL := 4) (ret := none) (by decide) rfl ?_
  intro p e s m args below meth c s₁ B hml hv
  obtain ⟨rfl, hsz, hP, hK, hD0, hN⟩ := hv
  have hx := B.exec
  have hb := B.bytes
  have hr := B.returns
  have hts := atoms_spec (ws := wsX3_chooseIfWanted) B.pre
  have hown : s.vm.findClass RX3 = some m.cls := findClass_of_methodNamed B.named
  have hlocks := B.notSynchronized
  subst hsz
  have hD := hD0.self (sz := s.heap.size)
  generalize hAe : va_A (wF cI cZ cQ ad (pat) (sent) (rep) (kept) (rc) (los) (wai) (set) (bad) (gon) (bk) (bp) (bv) (ck) (cp) (cv) (ek) (em)) s.heap.size = A at hD ⊢
  have hA : ∀ q : Nat, s.heap.size ≤ q → A q := fun q h => by rw [← hAe]; exact Or.inr h
  have hS : va_S A s.heap s.heap [] := va_S.rf
  have hl := lv_entry ([.ref (ad 0), .int (nI (q0)), .int (nI (nu))]) (n := 4) (Nat.le_of_ble_eq_true rfl)
  rw [lg_entry_eq]
  generalize (lg_sl ([.ref (ad 0), .int (nI (q0)), .int (nI (nu))]) ++ List.replicate (4 - (lg_sl ([.ref (ad 0), .int (nI (q0)), .int (nI (nu))])).length) Slot.unset).toArray = ls at hl ⊢
  have hl : lv_has ls 4 [(0, .ref (ad 0)), (1, .int (nI (q0))), (2, .int (nI (nu)))] := hl
  refine lv_iload_n hx hb dX3_chooseIfWanted_0 rfl (lv_at hl 1 rfl) ?_
  refine lv_iload_n hx hb dX3_chooseIfWanted_1 rfl (lv_at hl 2 rfl) ?_
  refine lv_ishr hx hb dX3_chooseIfWanted_2 ?_
  refine q_top (show (nI (q0) >>> (nI (nu) &&& 31)) = nI ((q0) / 2 ^ (nu)) from nI_shr (by omega) (by omega)) ?_
  refine lv_iconst (v := nI (1)) hx hb dX3_chooseIfWanted_3 (by decide) ?_
  refine lv_iand hx hb dX3_chooseIfWanted_4 ?_
  refine q_top (show (nI ((q0) / 2 ^ (nu)) &&& nI (1)) = nI (((q0) / 2 ^ (nu)) % 2) from nI_and1 _) ?_
  refine q_if_eq (u := ((((q0) / 2 ^ (nu)) % 2 : Nat) : Int)) (tgt := 12) hx hb dX3_chooseIfWanted_5 (by decide) (nI_toInt (by omega)) (fun c_5 => ?_) (fun c_5 => ?_)
  · have hc : ¬ (q0 / 2 ^ nu % 2 = 1 ∧ ck < bk) := by omega
    refine lv_iconst (v := nI (0)) hx hb dX3_chooseIfWanted_12 (by decide) ?_
    refine lv_istore_n (lv' := [(3, .int (nI (0))), (0, .ref (ad 0)), (1, .int (nI (q0))), (2, .int (nI (nu)))]) hx hb dX3_chooseIfWanted_13 rfl hl (by decide) rfl (fun ls hl => ?_)
    refine lv_iload_n hx hb dX3_chooseIfWanted_14 rfl (lv_at hl 0 rfl) ?_
    refine q_if_eq (u := ((0 : Nat) : Int)) (tgt := 51) hx hb dX3_chooseIfWanted_15 (by decide) (nI_toInt (by omega)) (fun _ => ?_) (fun c_15 => absurd c_15 (by decide))
    have eW : (wF cI cZ cQ ad (pat) (sent) (rep) (kept) (rc) (los) (wai) (set) (bad) (gon) (bk) (bp) (bv) (ck) (cp) (cv) (ek) (em)) = (wF cI cZ cQ ad (pat) (sent) (rep) (kept) (rc) (los) (wai) (set) (bad) (gon) (bk) (bp) (bv) (if q0 / 2 ^ nu % 2 = 1 ∧ ck < bk then ck + 1 else ck) (if q0 / 2 ^ nu % 2 = 1 ∧ ck < bk then ub cp ck (BitVec.ofNat 8 nu) else cp) (if q0 / 2 ^ nu % 2 = 1 ∧ ck < bk then ub cv ck (lag bk bp bv (BitVec.ofNat 8 nu)) else cv) (ek) (em)) := by first | rw [if_pos hc, if_pos hc, if_pos hc] | rw [if_neg hc, if_neg hc, if_neg hc]
    rw [eW] at hP hD
    exact W.vret hx hb hr (fun t ht hW => ⟨⟨(), rfl, trivial, by rw [ht]; exact hP, hD⟩, hS.F ht⟩) hS.2.2 dX3_chooseIfWanted_51
  · skip
    refine lv_iconst (v := nI (1)) hx hb dX3_chooseIfWanted_8 (by decide) ?_
    refine lv_goto (tgt := 13) hx hb dX3_chooseIfWanted_9 (by decide) ?_
    refine lv_istore_n (lv' := [(3, .int (nI (1))), (0, .ref (ad 0)), (1, .int (nI (q0))), (2, .int (nI (nu)))]) hx hb dX3_chooseIfWanted_13 rfl hl (by decide) rfl (fun ls hl => ?_)
    refine lv_iload_n hx hb dX3_chooseIfWanted_14 rfl (lv_at hl 0 rfl) ?_
    refine q_if_eq (u := ((1 : Nat) : Int)) (tgt := 51) hx hb dX3_chooseIfWanted_15 (by decide) (nI_toInt (by omega)) (fun c_15 => absurd c_15 (by decide)) (fun _ => ?_)
    refine lv_aload_n hx hb dX3_chooseIfWanted_18 rfl (lv_at hl 1 rfl) ?_
    refine va_get (D := D) (ci := 2) (v := .ref (ad 9)) (C := RX3) (T := TX3) (N := 13) hx hb hts iwX3_chooseIfWanted_X3 hown hK hP 0 rfl rfl 11 (by decide) (hts (.fieldLink RX3 33 "RepairSender" "chosen" "LRepairSender$Points;") (List.mem_of_getElem? (i := 1) rfl)) (fun _ h9 => h9) rfl dX3_chooseIfWanted_19 ?_
    refine va_getN (D := D) (ci := 1) (v := .int (nI (ck))) (C := RX2) (T := TX2) (N := 3) (host := "RepairSender") hx hb hts iwX3_chooseIfWanted_X2 hown hK hP 9 rfl rfl 2 (by decide) (va_Nw.use rfl (hN _ (List.mem_of_getElem? (i := 5) rfl))) (fun _ h9 => h9) rfl dX3_chooseIfWanted_22 ?_
    refine lv_aload_n hx hb dX3_chooseIfWanted_25 rfl (lv_at hl 1 rfl) ?_
    refine va_get (D := D) (ci := 2) (v := .ref (ad 6)) (C := RX3) (T := TX3) (N := 13) hx hb hts iwX3_chooseIfWanted_X3 hown hK hP 0 rfl rfl 0 (by decide) (hts (.fieldLink RX3 10 "RepairSender" "block" "LRepairSender$Points;") (List.mem_of_getElem? (i := 2) rfl)) (fun _ h9 => h9) rfl dX3_chooseIfWanted_26 ?_
    refine va_getN (D := D) (ci := 1) (v := .int (nI (bk))) (C := RX2) (T := TX2) (N := 3) (host := "RepairSender") hx hb hts iwX3_chooseIfWanted_X2 hown hK hP 6 rfl rfl 2 (by decide) (va_Nw.use rfl (hN _ (List.mem_of_getElem? (i := 5) rfl))) (fun _ h9 => h9) rfl dX3_chooseIfWanted_29 ?_
    refine q_icmp_ge (u := ((ck : Nat) : Int)) (v := ((bk : Nat) : Int)) (tgt := 51) hx hb dX3_chooseIfWanted_32 (by decide) (nI_toInt (by omega)) (nI_toInt (by omega)) (fun c_32 => ?_) (fun c_32 => ?_)
    · have hc : ¬ (q0 / 2 ^ nu % 2 = 1 ∧ ck < bk) := by omega
      have eW : (wF cI cZ cQ ad (pat) (sent) (rep) (kept) (rc) (los) (wai) (set) (bad) (gon) (bk) (bp) (bv) (ck) (cp) (cv) (ek) (em)) = (wF cI cZ cQ ad (pat) (sent) (rep) (kept) (rc) (los) (wai) (set) (bad) (gon) (bk) (bp) (bv) (if q0 / 2 ^ nu % 2 = 1 ∧ ck < bk then ck + 1 else ck) (if q0 / 2 ^ nu % 2 = 1 ∧ ck < bk then ub cp ck (BitVec.ofNat 8 nu) else cp) (if q0 / 2 ^ nu % 2 = 1 ∧ ck < bk then ub cv ck (lag bk bp bv (BitVec.ofNat 8 nu)) else cv) (ek) (em)) := by first | rw [if_pos hc, if_pos hc, if_pos hc] | rw [if_neg hc, if_neg hc, if_neg hc]
      rw [eW] at hP hD
      exact W.vret hx hb hr (fun t ht hW => ⟨⟨(), rfl, trivial, by rw [ht]; exact hP, hD⟩, hS.F ht⟩) hS.2.2 dX3_chooseIfWanted_51
    · have hc : q0 / 2 ^ nu % 2 = 1 ∧ ck < bk := by omega
      refine lv_aload_n hx hb dX3_chooseIfWanted_35 rfl (lv_at hl 1 rfl) ?_
      refine va_get (D := D) (ci := 2) (v := .ref (ad 9)) (C := RX3) (T := TX3) (N := 13) hx hb hts iwX3_chooseIfWanted_X3 hown hK hP 0 rfl rfl 11 (by decide) (hts (.fieldLink RX3 33 "RepairSender" "chosen" "LRepairSender$Points;") (List.mem_of_getElem? (i := 1) rfl)) (fun _ h9 => h9) rfl dX3_chooseIfWanted_36 ?_
      refine lv_iload_n hx hb dX3_chooseIfWanted_39 rfl (lv_at hl 3 rfl) ?_
      refine q_top (show nI (nu) = bI (BitVec.ofNat 8 nu) from bI_of (by omega)) ?_
      refine lv_aload_n hx hb dX3_chooseIfWanted_40 rfl (lv_at hl 1 rfl) ?_
      refine va_get (D := D) (ci := 2) (v := .ref (ad 6)) (C := RX3) (T := TX3) (N := 13) hx hb hts iwX3_chooseIfWanted_X3 hown hK hP 0 rfl rfl 0 (by decide) (hts (.fieldLink RX3 10 "RepairSender" "block" "LRepairSender$Points;") (List.mem_of_getElem? (i := 2) rfl)) (fun _ h9 => h9) rfl dX3_chooseIfWanted_41 ?_
      refine lv_iload_n hx hb dX3_chooseIfWanted_44 rfl (lv_at hl 3 rfl) ?_
      refine q_top (show nI (nu) = bI (BitVec.ofNat 8 nu) from bI_of (by omega)) ?_
      have hPc := hP.sub (ws' := (wPt cI ((ad 6)) ((ad 7)) ((ad 8)) (bk) (bp) (bv))) [6, 7, 8] rfl
      have hDc := hD.sub (ws' := (wPt cI ((ad 6)) ((ad 7)) ((ad 8)) (bk) (bp) (bv))) [6, 7, 8] (by decide) rfl
      refine q_csi (va_runVN (As := [.int (bI (BitVec.ofNat 8 nu))]) (rest := [.int (bI (BitVec.ofNat 8 nu)), .ref (ad 9)]) ⟨hx, hb, hml, hown, hts⟩ (c_X2_polynomialAt l D cI cZ cQ cL (ad 6) (ad 7) (ad 8) (bk) (bp) (bv) (BitVec.ofNat 8 nu) s.heap.size (by omega)) ⟨va_cnB 1 hts gX3_chooseIfWanted_X2_polynomialAt_n134 rfl rfl rfl (hN _ (List.mem_of_getElem? (i := 10) rfl)) (hts (.initialized RX2) (List.mem_of_getElem? (i := 4) rfl)) hd_X2_polynomialAt ⟨Nat.le_of_ble_eq_true rfl, Nat.le_of_ble_eq_true rfl⟩, (hts (.instanceMethod yX2_polynomialAt) (List.mem_of_getElem? (i := 3) rfl)), (hts (.selects RX2 yX2_polynomialAt yX2_polynomialAt) (List.mem_of_getElem? (i := 5) rfl))⟩ (PW_v (q := (RX2, TX2, 3)) (ci := 1) (q0 := 0) hPc hK hDc hN rfl rfl) rfl rfl hl.1 rfl (lv_room (Nat.le_of_ble_eq_true rfl)) dX3_chooseIfWanted_45 ⟨Nat.le_of_ble_eq_true rfl, Nat.le_of_ble_eq_true rfl⟩) (fun r_45 hr_45 => ?_)
      obtain rfl : r_45 = bI (lag bk bp bv (BitVec.ofNat 8 nu)) := hr_45
      have hPc := hP.sub (ws' := (wPt cI ((ad 9)) ((ad 10)) ((ad 11)) (ck) (cp) (cv))) [9, 10, 11] rfl
      have hDc := hD.sub (ws' := (wPt cI ((ad 9)) ((ad 10)) ((ad 11)) (ck) (cp) (cv))) [9, 10, 11] (by decide) rfl
      refine q_cv (wc := (wPt cI ((ad 9)) ((ad 10)) ((ad 11)) (ck) (cp) (cv))) (wr := (([0, 1, 2, 3, 4, 5, 6, 7, 8, 12, 13, 14, 15, 16, 17, 18, 19, 20, 21] : List Nat).filterMap (fun i => (wF cI cZ cQ ad (pat) (sent) (rep) (kept) (rc) (los) (wai) (set) (bad) (gon) (bk) (bp) (bv) (ck) (cp) (cv) (ek) (em))[i]?))) (w1 := fun _ => (wPt cI ((ad 9)) ((ad 10)) ((ad 11)) (ck + 1) (ub cp ck (BitVec.ofNat 8 nu)) (ub cv ck (lag bk bp bv (BitVec.ofNat 8 nu))))) (va_runVN (As := [.int (bI (BitVec.ofNat 8 nu)), .int (bI (lag bk bp bv (BitVec.ofNat 8 nu)))]) (rest := []) ⟨hx, hb, hml, hown, hts⟩ (c_X2_add l D cI cZ cQ cL (ad 9) (ad 10) (ad 11) (ck) (cp) (cv) (BitVec.ofNat 8 nu) (lag bk bp bv (BitVec.ofNat 8 nu)) s.heap.size (by omega)) ⟨va_cnB 2 hts gX3_chooseIfWanted_X2_add_n170 rfl rfl rfl (hN _ (List.mem_of_getElem? (i := 8) rfl)) (hts (.initialized RX2) (List.mem_of_getElem? (i := 4) rfl)) hd_X2_add ⟨Nat.le_of_ble_eq_true rfl, Nat.le_of_ble_eq_true rfl⟩, (hts (.instanceMethod yX2_add) (List.mem_of_getElem? (i := 20) rfl)), (hts (.selects RX2 yX2_add yX2_add) (List.mem_of_getElem? (i := 21) rfl))⟩ (PW_v (q := (RX2, TX2, 3)) (ci := 1) (q0 := 0) hPc hK hDc hN rfl rfl) rfl rfl hl.1 rfl (lv_room (Nat.le_of_ble_eq_true rfl)) dX3_chooseIfWanted_48 ⟨Nat.le_of_ble_eq_true rfl, Nat.le_of_ble_eq_true rfl⟩) hP hD hS hA [9, 10, 11] [0, 1, 2, 3, 4, 5, 6, 7, 8, 12, 13, 14, 15, 16, 17, 18, 19, 20, 21] rfl rfl (by decide) (by decide) (fun u_48 H locs h_48 hP hD hS => ?_)
      have hP := hP.sub (ws' := (wF cI cZ cQ ad (pat) (sent) (rep) (kept) (rc) (los) (wai) (set) (bad) (gon) (bk) (bp) (bv) (ck + 1) (ub cp ck (BitVec.ofNat 8 nu)) (ub cv ck (lag bk bp bv (BitVec.ofNat 8 nu))) (ek) (em))) [0, 1, 2, 3, 4, 5, 6, 7, 8, 19, 20, 21, 9, 10, 11, 12, 13, 14, 15, 16, 17, 18] rfl
      have hD := hD.sub (ws' := (wF cI cZ cQ ad (pat) (sent) (rep) (kept) (rc) (los) (wai) (set) (bad) (gon) (bk) (bp) (bv) (ck + 1) (ub cp ck (BitVec.ofNat 8 nu)) (ub cv ck (lag bk bp bv (BitVec.ofNat 8 nu))) (ek) (em))) [0, 1, 2, 3, 4, 5, 6, 7, 8, 19, 20, 21, 9, 10, 11, 12, 13, 14, 15, 16, 17, 18] (by decide) rfl
      have eW : (wF cI cZ cQ ad (pat) (sent) (rep) (kept) (rc) (los) (wai) (set) (bad) (gon) (bk) (bp) (bv) (ck + 1) (ub cp ck (BitVec.ofNat 8 nu)) (ub cv ck (lag bk bp bv (BitVec.ofNat 8 nu))) (ek) (em)) = (wF cI cZ cQ ad (pat) (sent) (rep) (kept) (rc) (los) (wai) (set) (bad) (gon) (bk) (bp) (bv) (if q0 / 2 ^ nu % 2 = 1 ∧ ck < bk then ck + 1 else ck) (if q0 / 2 ^ nu % 2 = 1 ∧ ck < bk then ub cp ck (BitVec.ofNat 8 nu) else cp) (if q0 / 2 ^ nu % 2 = 1 ∧ ck < bk then ub cv ck (lag bk bp bv (BitVec.ofNat 8 nu)) else cv) (ek) (em)) := by first | rw [if_pos hc, if_pos hc, if_pos hc] | rw [if_neg hc, if_neg hc, if_neg hc]
      rw [eW] at hP hD
      exact W.vret hx hb hr (fun t ht hW => ⟨⟨(), rfl, trivial, by rw [ht]; exact hP, hD⟩, hS.F ht⟩) hS.2.2 dX3_chooseIfWanted_51

theorem iwX3_chooseLowest_X3 : ∀ w ∈ wsX30, w ∈ wsX3_chooseLowest := by decide +kernel
set_option maxHeartbeats 4000000 in
set_option maxRecDepth 100000 in
theorem c_X3_chooseLowest (l : Launch) (D : va_G) (cI cZ cQ cL : ClassId) (ad : Nat → Nat) (pat : Nat) (sent : Nat) (rep : Nat) (kept : Nat) (rc : Nat) (los : Nat → Nat) (wai : Nat → Nat) (set : Nat → Nat) (bad : Nat → Nat) (gon : Nat → Nat) (bk : Nat) (bp : Nat → B8) (bv : Nat → B8) (ck : Nat) (cp : Nat → B8) (cv : Nat → B8) (ek : Nat) (em : Nat → Nat → B8) (q0 : Nat) (sz : Nat) (hq : q0 < 65536) (hbk : bk ≤ 8) : Met l yX3_chooseLowest wsX3_chooseLowest ({ frames := 5, cells := 0, slots := 0, locals := 118 } : Room) (PW D (TY cI cZ cQ cL) (wF cI cZ cQ ad (pat) (sent) (rep) (kept) (rc) (los) (wai) (set) (bad) (gon) (bk) (bp) (bv) (ck) (cp) (cv) (ek) (em)) sz [.ref (ad 0), .int (nI (q0))]) (QV D (va_A (wF cI cZ cQ ad (pat) (sent) (rep) (kept) (rc) (los) (wai) (set) (bad) (gon) (bk) (bp) (bv) (ck) (cp) (cv) (ek) (em)) sz) (fun (_ : Unit) => True) (fun _ => (wF cI cZ cQ ad (pat) (sent) (rep) (kept) (rc) (los) (wai) (set) (bad) (gon) (bk) (bp) (bv) (chC bk q0 (fun q => q) 16) (chP bk q0 (fun q => q) cp 16) (chV bk q0 (fun q => q) (lag bk bp bv) cv 16) (ek) (em)))) 0 0 (va_A (wF cI cZ cQ ad (pat) (sent) (rep) (kept) (rc) (los) (wai) (set) (bad) (gon) (bk) (bp) (bv) (ck) (cp) (cv) (ek) (em)) sz) := by
  refine Met.ofW (cc := cX3_chooseLowest) (maxL := 3) (ret := none) (by decide) rfl ?_
  intro p e s m args below meth c s₁ B hml hv
  obtain ⟨rfl, hsz, hP, hK, hD0, hN⟩ := hv
  have hx := B.exec
  have hb := B.bytes
  have hr := B.returns
  have hts := atoms_spec (ws := wsX3_chooseLowest) B.pre
  have hown : s.vm.findClass RX3 = some m.cls := findClass_of_methodNamed B.named
  have hlocks := B.notSynchronized
  subst hsz
  have hD := hD0.self (sz := s.heap.size)
  generalize hAe : va_A (wF cI cZ cQ ad (pat) (sent) (rep) (kept) (rc) (los) (wai) (set) (bad) (gon) (bk) (bp) (bv) (ck) (cp) (cv) (ek) (em)) s.heap.size = A at hD ⊢
  have hA : ∀ q : Nat, s.heap.size ≤ q → A q := fun q h => by rw [← hAe]; exact Or.inr h
  have hS : va_S A s.heap s.heap [] := va_S.rf
  have hl := lv_entry ([.ref (ad 0), .int (nI (q0))]) (n := 3) (Nat.le_of_ble_eq_true rfl)
  rw [lg_entry_eq]
  generalize (lg_sl ([.ref (ad 0), .int (nI (q0))]) ++ List.replicate (3 - (lg_sl ([.ref (ad 0), .int (nI (q0))])).length) Slot.unset).toArray = ls at hl ⊢
  have hl : lv_has ls 3 [(0, .ref (ad 0)), (1, .int (nI (q0)))] := hl
  refine lv_aload_n hx hb dX3_chooseLowest_0 rfl (lv_at hl 0 rfl) ?_
  refine va_get (D := D) (ci := 2) (v := .ref (ad 9)) (C := RX3) (T := TX3) (N := 13) hx hb hts iwX3_chooseLowest_X3 hown hK hP 0 rfl rfl 11 (by decide) (hts (.fieldLink RX3 33 "RepairSender" "chosen" "LRepairSender$Points;") (List.mem_of_getElem? (i := 1) rfl)) (fun _ h9 => h9) rfl dX3_chooseLowest_1 ?_
  have hPc := hP.sub (ws' := (wPt cI ((ad 9)) ((ad 10)) ((ad 11)) (ck) (cp) (cv))) [9, 10, 11] rfl
  have hDc := hD.sub (ws' := (wPt cI ((ad 9)) ((ad 10)) ((ad 11)) (ck) (cp) (cv))) [9, 10, 11] (by decide) rfl
  refine q_cv (wc := (wPt cI ((ad 9)) ((ad 10)) ((ad 11)) (ck) (cp) (cv))) (wr := (([0, 1, 2, 3, 4, 5, 6, 7, 8, 12, 13, 14, 15, 16, 17, 18, 19, 20, 21] : List Nat).filterMap (fun i => (wF cI cZ cQ ad (pat) (sent) (rep) (kept) (rc) (los) (wai) (set) (bad) (gon) (bk) (bp) (bv) (ck) (cp) (cv) (ek) (em))[i]?))) (w1 := fun _ => (wPt cI ((ad 9)) ((ad 10)) ((ad 11)) (0) (cp) (cv))) (va_runVN (As := []) (rest := []) ⟨hx, hb, hml, hown, hts⟩ (c_X2_clear l D cI cZ cQ cL (ad 9) (ad 10) (ad 11) (ck) (cp) (cv) s.heap.size ) ⟨va_cnB 0 hts gX3_chooseLowest_X2_clear_n167 rfl rfl rfl (hN _ (List.mem_of_getElem? (i := 7) rfl)) (hts (.initialized RX2) (List.mem_of_getElem? (i := 3) rfl)) hd_X2_clear ⟨Nat.le_of_ble_eq_true rfl, Nat.le_of_ble_eq_true rfl⟩, (hts (.instanceMethod yX2_clear) (List.mem_of_getElem? (i := 2) rfl)), (hts (.selects RX2 yX2_clear yX2_clear) (List.mem_of_getElem? (i := 4) rfl))⟩ (PW_v (q := (RX2, TX2, 3)) (ci := 1) (q0 := 0) hPc hK hDc hN rfl rfl) rfl rfl hl.1 rfl (lv_room (Nat.le_of_ble_eq_true rfl)) dX3_chooseLowest_4 ⟨Nat.le_of_ble_eq_true rfl, Nat.le_of_ble_eq_true rfl⟩) hP hD hS hA [9, 10, 11] [0, 1, 2, 3, 4, 5, 6, 7, 8, 12, 13, 14, 15, 16, 17, 18, 19, 20, 21] rfl rfl (by decide) (by decide) (fun u_4 H locs h_4 hP hD hS => ?_)
  have hP := hP.sub (ws' := (wF cI cZ cQ ad (pat) (sent) (rep) (kept) (rc) (los) (wai) (set) (bad) (gon) (bk) (bp) (bv) (0) (cp) (cv) (ek) (em))) [0, 1, 2, 3, 4, 5, 6, 7, 8, 19, 20, 21, 9, 10, 11, 12, 13, 14, 15, 16, 17, 18] rfl
  have hD := hD.sub (ws' := (wF cI cZ cQ ad (pat) (sent) (rep) (kept) (rc) (los) (wai) (set) (bad) (gon) (bk) (bp) (bv) (0) (cp) (cv) (ek) (em))) [0, 1, 2, 3, 4, 5, 6, 7, 8, 19, 20, 21, 9, 10, 11, 12, 13, 14, 15, 16, 17, 18] (by decide) rfl
  refine lv_iconst (v := nI (0)) hx hb dX3_chooseLowest_7 (by decide) ?_
  refine lv_istore_n (lv' := [(2, .int (nI (0))), (0, .ref (ad 0)), (1, .int (nI (q0)))]) hx hb dX3_chooseLowest_8 rfl hl (by decide) rfl (fun ls hl => ?_)
  have L9_1 : ∀ (n9_1 : Nat) (i : Nat), 16 - i < n9_1 → (i ≤ 16) → ∀ (H : Heap) (locs : List Loc), va_P D vwCl (wF cI cZ cQ ad (pat) (sent) (rep) (kept) (rc) (los) (wai) (set) (bad) (gon) (bk) (bp) (bv) (chC bk q0 (fun q => q) i) (chP bk q0 (fun q => q) cp i) (chV bk q0 (fun q => q) (lag bk bp bv) cv i) (ek) (em)) H → va_D A (wF cI cZ cQ ad (pat) (sent) (rep) (kept) (rc) (los) (wai) (set) (bad) (gon) (bk) (bp) (bv) (chC bk q0 (fun q => q) i) (chP bk q0 (fun q => q) cp i) (chV bk q0 (fun q => q) (lag bk bp bv) cv i) (ek) (em)) → va_S A s.heap H locs → ∀ (ls : Array Slot), lv_has ls 3 [(0, .ref (ad 0)), (1, .int (nI (q0))), (2, .int (nI (i)))] → W p l e (headSpec wsX3_chooseLowest ({ frames := 5, cells := 0, slots := 0, locals := 118 } : Room)).room s m ([.ref (ad 0), .int (nI (q0))] : List Value).toArray below meth c H locs 0 0 (MQ below (QV D A (fun (_ : Unit) => True) (fun _ => (wF cI cZ cQ ad (pat) (sent) (rep) (kept) (rc) (los) (wai) (set) (bad) (gon) (bk) (bp) (bv) (chC bk q0 (fun q => q) 16) (chP bk q0 (fun q => q) cp 16) (chV bk q0 (fun q => q) (lag bk bp bv) cv 16) (ek) (em)))) ([.ref (ad 0), .int (nI (q0))] : List Value).toArray s 0 0 A) (F0 m 9 ls []) := by
    intro n9_1
    induction n9_1 with
    | zero =>
      intro i hn9_1
      exact absurd hn9_1 (Nat.not_lt_zero _)
    | succ n9_1 ih9_1 =>
      intro i hn9_1 hi H locs hP hD hS ls hl
      refine lv_iload_n hx hb dX3_chooseLowest_9 rfl (lv_at hl 2 rfl) ?_
      refine lv_bipush (v := nI (16)) hx hb dX3_chooseLowest_10 (by decide) ?_
      refine q_icmp_ge (u := ((i : Nat) : Int)) (v := ((16 : Nat) : Int)) (tgt := 27) hx hb dX3_chooseLowest_12 (by decide) (nI_toInt (by omega)) (nI_toInt (by omega)) (fun c_12 => ?_) (fun c_12 => ?_)
      · obtain rfl : 16 = i := by omega
        have hP : va_P D vwCl (wF cI cZ cQ ad (pat) (sent) (rep) (kept) (rc) (los) (wai) (set) (bad) (gon) (bk) (bp) (bv) (chC bk q0 (fun q => q) 16) (chP bk q0 (fun q => q) cp 16) (chV bk q0 (fun q => q) (lag bk bp bv) cv 16) (ek) (em)) H := hP
        have hD : va_D A (wF cI cZ cQ ad (pat) (sent) (rep) (kept) (rc) (los) (wai) (set) (bad) (gon) (bk) (bp) (bv) (chC bk q0 (fun q => q) 16) (chP bk q0 (fun q => q) cp 16) (chV bk q0 (fun q => q) (lag bk bp bv) cv 16) (ek) (em)) := hD
        exact W.vret hx hb hr (fun t ht hW => ⟨⟨(), rfl, trivial, by rw [ht]; exact hP, hD⟩, hS.F ht⟩) hS.2.2 dX3_chooseLowest_27
      · skip
        refine lv_aload_n hx hb dX3_chooseLowest_15 rfl (lv_at hl 0 rfl) ?_
        refine lv_iload_n hx hb dX3_chooseLowest_16 rfl (lv_at hl 1 rfl) ?_
        refine lv_iload_n hx hb dX3_chooseLowest_17 rfl (lv_at hl 2 rfl) ?_
        have hPc : va_P D vwCl (wF cI cZ cQ ad (pat) (sent) (rep) (kept) (rc) (los) (wai) (set) (bad) (gon) (bk) (bp) (bv) ((chC bk q0 (fun q => q) i)) ((chP bk q0 (fun q => q) cp i)) ((chV bk q0 (fun q => q) (lag bk bp bv) cv i)) (ek) (em)) H := hP
        refine q_cv (wc := (wF cI cZ cQ ad (pat) (sent) (rep) (kept) (rc) (los) (wai) (set) (bad) (gon) (bk) (bp) (bv) ((chC bk q0 (fun q => q) i)) ((chP bk q0 (fun q => q) cp i)) ((chV bk q0 (fun q => q) (lag bk bp bv) cv i)) (ek) (em))) (wr := []) (w1 := fun _ => (wF cI cZ cQ ad (pat) (sent) (rep) (kept) (rc) (los) (wai) (set) (bad) (gon) (bk) (bp) (bv) (if q0 / 2 ^ i % 2 = 1 ∧ (chC bk q0 (fun q => q) i) < bk then (chC bk q0 (fun q => q) i) + 1 else (chC bk q0 (fun q => q) i)) (if q0 / 2 ^ i % 2 = 1 ∧ (chC bk q0 (fun q => q) i) < bk then ub (chP bk q0 (fun q => q) cp i) (chC bk q0 (fun q => q) i) (BitVec.ofNat 8 i) else (chP bk q0 (fun q => q) cp i)) (if q0 / 2 ^ i % 2 = 1 ∧ (chC bk q0 (fun q => q) i) < bk then ub (chV bk q0 (fun q => q) (lag bk bp bv) cv i) (chC bk q0 (fun q => q) i) (lag bk bp bv (BitVec.ofNat 8 i)) else (chV bk q0 (fun q => q) (lag bk bp bv) cv i)) (ek) (em))) (va_runV (As := [.int (nI (q0)), .int (nI (i))]) (rest := []) ⟨hx, hb, hml, hown, hts⟩ (c_X3_chooseIfWanted l D cI cZ cQ cL (ad) (pat) (sent) (rep) (kept) (rc) (los) (wai) (set) (bad) (gon) (bk) (bp) (bv) (chC bk q0 (fun q => q) i) (chP bk q0 (fun q => q) cp i) (chV bk q0 (fun q => q) (lag bk bp bv) cv i) (ek) (em) (q0) (i) H.size (hq) (by omega) (chC_le bk q0 (fun q => q) i) (hbk)) (cwV 2 hts gX3_chooseLowest_X3_chooseIfWanted rfl rfl rfl ⟨rfl, hd_X3_chooseIfWanted⟩ ⟨Nat.le_of_ble_eq_true rfl, Nat.le_of_ble_eq_true rfl⟩) (PW_v (q := (RX3, TX3, 13)) (ci := 2) (q0 := 0) hPc hK hD hN rfl rfl) rfl rfl hl.1 rfl (lv_room (Nat.le_of_ble_eq_true rfl)) dX3_chooseLowest_18 ⟨Nat.le_of_ble_eq_true rfl, Nat.le_of_ble_eq_true rfl⟩) hP hD hS hA [0, 1, 2, 3, 4, 5, 6, 7, 8, 9, 10, 11, 12, 13, 14, 15, 16, 17, 18, 19, 20, 21] [] rfl rfl (by decide) (by decide) (fun u_18 H locs h_18 hP hD hS => ?_)
        have hP : va_P D vwCl (wF cI cZ cQ ad (pat) (sent) (rep) (kept) (rc) (los) (wai) (set) (bad) (gon) (bk) (bp) (bv) (if q0 / 2 ^ i % 2 = 1 ∧ (chC bk q0 (fun q => q) i) < bk then (chC bk q0 (fun q => q) i) + 1 else (chC bk q0 (fun q => q) i)) (if q0 / 2 ^ i % 2 = 1 ∧ (chC bk q0 (fun q => q) i) < bk then ub (chP bk q0 (fun q => q) cp i) (chC bk q0 (fun q => q) i) (BitVec.ofNat 8 i) else (chP bk q0 (fun q => q) cp i)) (if q0 / 2 ^ i % 2 = 1 ∧ (chC bk q0 (fun q => q) i) < bk then ub (chV bk q0 (fun q => q) (lag bk bp bv) cv i) (chC bk q0 (fun q => q) i) (lag bk bp bv (BitVec.ofNat 8 i)) else (chV bk q0 (fun q => q) (lag bk bp bv) cv i)) (ek) (em)) H := hP
        have hD : va_D A (wF cI cZ cQ ad (pat) (sent) (rep) (kept) (rc) (los) (wai) (set) (bad) (gon) (bk) (bp) (bv) (if q0 / 2 ^ i % 2 = 1 ∧ (chC bk q0 (fun q => q) i) < bk then (chC bk q0 (fun q => q) i) + 1 else (chC bk q0 (fun q => q) i)) (if q0 / 2 ^ i % 2 = 1 ∧ (chC bk q0 (fun q => q) i) < bk then ub (chP bk q0 (fun q => q) cp i) (chC bk q0 (fun q => q) i) (BitVec.ofNat 8 i) else (chP bk q0 (fun q => q) cp i)) (if q0 / 2 ^ i % 2 = 1 ∧ (chC bk q0 (fun q => q) i) < bk then ub (chV bk q0 (fun q => q) (lag bk bp bv) cv i) (chC bk q0 (fun q => q) i) (lag bk bp bv (BitVec.ofNat 8 i)) else (chV bk q0 (fun q => q) (lag bk bp bv) cv i)) (ek) (em)) := hD
        refine lv_iinc (v := nI (i + 1)) (lv' := [(2, .int (nI (i + 1))), (0, .ref (ad 0)), (1, .int (nI (q0)))]) hx hb dX3_chooseLowest_21 hl (k := 2) rfl (show nI (i) + Int32.ofInt 1 = nI (i + 1) from nI_add (i) 1) (by decide) rfl (fun ls hl => ?_)
        refine lv_goto (tgt := 9) hx hb dX3_chooseLowest_24 (by decide) ?_
        have eW : (wF cI cZ cQ ad (pat) (sent) (rep) (kept) (rc) (los) (wai) (set) (bad) (gon) (bk) (bp) (bv) (if q0 / 2 ^ i % 2 = 1 ∧ (chC bk q0 (fun q => q) i) < bk then (chC bk q0 (fun q => q) i) + 1 else (chC bk q0 (fun q => q) i)) (if q0 / 2 ^ i % 2 = 1 ∧ (chC bk q0 (fun q => q) i) < bk then ub (chP bk q0 (fun q => q) cp i) (chC bk q0 (fun q => q) i) (BitVec.ofNat 8 i) else (chP bk q0 (fun q => q) cp i)) (if q0 / 2 ^ i % 2 = 1 ∧ (chC bk q0 (fun q => q) i) < bk then ub (chV bk q0 (fun q => q) (lag bk bp bv) cv i) (chC bk q0 (fun q => q) i) (lag bk bp bv (BitVec.ofNat 8 i)) else (chV bk q0 (fun q => q) (lag bk bp bv) cv i)) (ek) (em)) = (wF cI cZ cQ ad (pat) (sent) (rep) (kept) (rc) (los) (wai) (set) (bad) (gon) (bk) (bp) (bv) (chC bk q0 (fun q => q) (i + 1)) (chP bk q0 (fun q => q) cp (i + 1)) (chV bk q0 (fun q => q) (lag bk bp bv) cv (i + 1)) (ek) (em)) := by rfl
        rw [eW] at hP hD
        clear eW
        exact ih9_1 (i + 1) (by omega) (by omega) _ _ hP hD hS ls (lv_sub hl [1, 2, 0] rfl)
  have eW : (wF cI cZ cQ ad (pat) (sent) (rep) (kept) (rc) (los) (wai) (set) (bad) (gon) (bk) (bp) (bv) (0) (cp) (cv) (ek) (em)) = (wF cI cZ cQ ad (pat) (sent) (rep) (kept) (rc) (los) (wai) (set) (bad) (gon) (bk) (bp) (bv) (chC bk q0 (fun q => q) 0) (chP bk q0 (fun q => q) cp 0) (chV bk q0 (fun q => q) (lag bk bp bv) cv 0) (ek) (em)) := by rfl
  rw [eW] at hP hD
  clear eW
  exact L9_1 _ (0) (Nat.lt_succ_self _) (by omega) _ _ hP hD hS ls (lv_sub hl [1, 2, 0] rfl)

theorem iwX3_chooseHighest_X3 : ∀ w ∈ wsX30, w ∈ wsX3_chooseHighest := by decide +kernel
set_option maxHeartbeats 4000000 in
set_option maxRecDepth 100000 in
theorem c_X3_chooseHighest (l : Launch) (D : va_G) (cI cZ cQ cL : ClassId) (ad : Nat → Nat) (pat : Nat) (sent : Nat) (rep : Nat) (kept : Nat) (rc : Nat) (los : Nat → Nat) (wai : Nat → Nat) (set : Nat → Nat) (bad : Nat → Nat) (gon : Nat → Nat) (bk : Nat) (bp : Nat → B8) (bv : Nat → B8) (ck : Nat) (cp : Nat → B8) (cv : Nat → B8) (ek : Nat) (em : Nat → Nat → B8) (q0 : Nat) (sz : Nat) (hq : q0 < 65536) (hbk : bk ≤ 8) : Met l yX3_chooseHighest wsX3_chooseHighest ({ frames := 5, cells := 0, slots := 0, locals := 118 } : Room) (PW D (TY cI cZ cQ cL) (wF cI cZ cQ ad (pat) (sent) (rep) (kept) (rc) (los) (wai) (set) (bad) (gon) (bk) (bp) (bv) (ck) (cp) (cv) (ek) (em)) sz [.ref (ad 0), .int (nI (q0))]) (QV D (va_A (wF cI cZ cQ ad (pat) (sent) (rep) (kept) (rc) (los) (wai) (set) (bad) (gon) (bk) (bp) (bv) (ck) (cp) (cv) (ek) (em)) sz) (fun (_ : Unit) => True) (fun _ => (wF cI cZ cQ ad (pat) (sent) (rep) (kept) (rc) (los) (wai) (set) (bad) (gon) (bk) (bp) (bv) (chC bk q0 (fun q => 15 - q) 16) (chP bk q0 (fun q => 15 - q) cp 16) (chV bk q0 (fun q => 15 - q) (lag bk bp bv) cv 16) (ek) (em)))) 0 0 (va_A (wF cI cZ cQ ad (pat) (sent) (rep) (kept) (rc) (los) (wai) (set) (bad) (gon) (bk) (bp) (bv) (ck) (cp) (cv) (ek) (em)) sz) := by
  refine Met.ofW (cc := cX3_chooseHighest) (maxL := 3) (ret := none) (by decide) rfl ?_
  intro p e s m args below meth c s₁ B hml hv
  obtain ⟨rfl, hsz, hP, hK, hD0, hN⟩ := hv
  have hx := B.exec
  have hb := B.bytes
  have hr := B.returns
  have hts := atoms_spec (ws := wsX3_chooseHighest) B.pre
  have hown : s.vm.findClass RX3 = some m.cls := findClass_of_methodNamed B.named
  have hlocks := B.notSynchronized
  subst hsz
  have hD := hD0.self (sz := s.heap.size)
  generalize hAe : va_A (wF cI cZ cQ ad (pat) (sent) (rep) (kept) (rc) (los) (wai) (set) (bad) (gon) (bk) (bp) (bv) (ck) (cp) (cv) (ek) (em)) s.heap.size = A at hD ⊢
  have hA : ∀ q : Nat, s.heap.size ≤ q → A q := fun q h => by rw [← hAe]; exact Or.inr h
  have hS : va_S A s.heap s.heap [] := va_S.rf
  have hl := lv_entry ([.ref (ad 0), .int (nI (q0))]) (n := 3) (Nat.le_of_ble_eq_true rfl)
  rw [lg_entry_eq]
  generalize (lg_sl ([.ref (ad 0), .int (nI (q0))]) ++ List.replicate (3 - (lg_sl ([.ref (ad 0), .int (nI (q0))])).length) Slot.unset).toArray = ls at hl ⊢
  have hl : lv_has ls 3 [(0, .ref (ad 0)), (1, .int (nI (q0)))] := hl
  refine lv_aload_n hx hb dX3_chooseHighest_0 rfl (lv_at hl 0 rfl) ?_
  refine va_get (D := D) (ci := 2) (v := .ref (ad 9)) (C := RX3) (T := TX3) (N := 13) hx hb hts iwX3_chooseHighest_X3 hown hK hP 0 rfl rfl 11 (by decide) (hts (.fieldLink RX3 33 "RepairSender" "chosen" "LRepairSender$Points;") (List.mem_of_getElem? (i := 1) rfl)) (fun _ h9 => h9) rfl dX3_chooseHighest_1 ?_
  have hPc := hP.sub (ws' := (wPt cI ((ad 9)) ((ad 10)) ((ad 11)) (ck) (cp) (cv))) [9, 10, 11] rfl
  have hDc := hD.sub (ws' := (wPt cI ((ad 9)) ((ad 10)) ((ad 11)) (ck) (cp) (cv))) [9, 10, 11] (by decide) rfl
  refine q_cv (wc := (wPt cI ((ad 9)) ((ad 10)) ((ad 11)) (ck) (cp) (cv))) (wr := (([0, 1, 2, 3, 4, 5, 6, 7, 8, 12, 13, 14, 15, 16, 17, 18, 19, 20, 21] : List Nat).filterMap (fun i => (wF cI cZ cQ ad (pat) (sent) (rep) (kept) (rc) (los) (wai) (set) (bad) (gon) (bk) (bp) (bv) (ck) (cp) (cv) (ek) (em))[i]?))) (w1 := fun _ => (wPt cI ((ad 9)) ((ad 10)) ((ad 11)) (0) (cp) (cv))) (va_runVN (As := []) (rest := []) ⟨hx, hb, hml, hown, hts⟩ (c_X2_clear l D cI cZ cQ cL (ad 9) (ad 10) (ad 11) (ck) (cp) (cv) s.heap.size ) ⟨va_cnB 0 hts gX3_chooseHighest_X2_clear_n167 rfl rfl rfl (hN _ (List.mem_of_getElem? (i := 7) rfl)) (hts (.initialized RX2) (List.mem_of_getElem? (i := 3) rfl)) hd_X2_clear ⟨Nat.le_of_ble_eq_true rfl, Nat.le_of_ble_eq_true rfl⟩, (hts (.instanceMethod yX2_clear) (List.mem_of_getElem? (i := 2) rfl)), (hts (.selects RX2 yX2_clear yX2_clear) (List.mem_of_getElem? (i := 4) rfl))⟩ (PW_v (q := (RX2, TX2, 3)) (ci := 1) (q0 := 0) hPc hK hDc hN rfl rfl) rfl rfl hl.1 rfl (lv_room (Nat.le_of_ble_eq_true rfl)) dX3_chooseHighest_4 ⟨Nat.le_of_ble_eq_true rfl, Nat.le_of_ble_eq_true rfl⟩) hP hD hS hA [9, 10, 11] [0, 1, 2, 3, 4, 5, 6, 7, 8, 12, 13, 14, 15, 16, 17, 18, 19, 20, 21] rfl rfl (by decide) (by decide) (fun u_4 H locs h_4 hP hD hS => ?_)
  have hP := hP.sub (ws' := (wF cI cZ cQ ad (pat) (sent) (rep) (kept) (rc) (los) (wai) (set) (bad) (gon) (bk) (bp) (bv) (0) (cp) (cv) (ek) (em))) [0, 1, 2, 3, 4, 5, 6, 7, 8, 19, 20, 21, 9, 10, 11, 12, 13, 14, 15, 16, 17, 18] rfl
  have hD := hD.sub (ws' := (wF cI cZ cQ ad (pat) (sent) (rep) (kept) (rc) (los) (wai) (set) (bad) (gon) (bk) (bp) (bv) (0) (cp) (cv) (ek) (em))) [0, 1, 2, 3, 4, 5, 6, 7, 8, 19, 20, 21, 9, 10, 11, 12, 13, 14, 15, 16, 17, 18] (by decide) rfl
  refine lv_bipush (v := nI (15)) hx hb dX3_chooseHighest_7 (by decide) ?_
  refine lv_istore_n (lv' := [(2, .int (nI (15))), (0, .ref (ad 0)), (1, .int (nI (q0)))]) hx hb dX3_chooseHighest_9 rfl hl (by decide) rfl (fun ls hl => ?_)
  have L10_1 : ∀ (n10_1 : Nat) (t : Nat), t < n10_1 → (t ≤ 16) → ∀ (H : Heap) (locs : List Loc), va_P D vwCl (wF cI cZ cQ ad (pat) (sent) (rep) (kept) (rc) (los) (wai) (set) (bad) (gon) (bk) (bp) (bv) (chC bk q0 (fun q => 15 - q) (16 - t)) (chP bk q0 (fun q => 15 - q) cp (16 - t)) (chV bk q0 (fun q => 15 - q) (lag bk bp bv) cv (16 - t)) (ek) (em)) H → va_D A (wF cI cZ cQ ad (pat) (sent) (rep) (kept) (rc) (los) (wai) (set) (bad) (gon) (bk) (bp) (bv) (chC bk q0 (fun q => 15 - q) (16 - t)) (chP bk q0 (fun q => 15 - q) cp (16 - t)) (chV bk q0 (fun q => 15 - q) (lag bk bp bv) cv (16 - t)) (ek) (em)) → va_S A s.heap H locs → ∀ (ls : Array Slot), lv_has ls 3 [(0, .ref (ad 0)), (1, .int (nI (q0))), (2, .int (pI t))] → W p l e (headSpec wsX3_chooseHighest ({ frames := 5, cells := 0, slots := 0, locals := 118 } : Room)).room s m ([.ref (ad 0), .int (nI (q0))] : List Value).toArray below meth c H locs 0 0 (MQ below (QV D A (fun (_ : Unit) => True) (fun _ => (wF cI cZ cQ ad (pat) (sent) (rep) (kept) (rc) (los) (wai) (set) (bad) (gon) (bk) (bp) (bv) (chC bk q0 (fun q => 15 - q) 16) (chP bk q0 (fun q => 15 - q) cp 16) (chV bk q0 (fun q => 15 - q) (lag bk bp bv) cv 16) (ek) (em)))) ([.ref (ad 0), .int (nI (q0))] : List Value).toArray s 0 0 A) (F0 m 10 ls []) := by
    intro n10_1
    induction n10_1 with
    | zero =>
      intro t hn10_1
      exact absurd hn10_1 (Nat.not_lt_zero _)
    | succ n10_1 ih10_1 =>
      intro t hn10_1 ht H locs hP hD hS ls hl
      rcases Nat.eq_zero_or_pos t with rfl | htp
      · skip
        have hl : lv_has ls 3 [(0, .ref (ad 0)), (1, .int (nI (q0))), (2, .int ((-1)))] := hl
        refine lv_iload_n hx hb dX3_chooseHighest_10 rfl (lv_at hl 2 rfl) ?_
        refine q_if_lt (u := (-1 : Int)) (tgt := 26) hx hb dX3_chooseHighest_11 (by decide) (by decide) (fun _ => ?_) (fun c_11 => absurd c_11 (by decide))
        have hP : va_P D vwCl (wF cI cZ cQ ad (pat) (sent) (rep) (kept) (rc) (los) (wai) (set) (bad) (gon) (bk) (bp) (bv) (chC bk q0 (fun q => 15 - q) 16) (chP bk q0 (fun q => 15 - q) cp 16) (chV bk q0 (fun q => 15 - q) (lag bk bp bv) cv 16) (ek) (em)) H := hP
        have hD : va_D A (wF cI cZ cQ ad (pat) (sent) (rep) (kept) (rc) (los) (wai) (set) (bad) (gon) (bk) (bp) (bv) (chC bk q0 (fun q => 15 - q) 16) (chP bk q0 (fun q => 15 - q) cp 16) (chV bk q0 (fun q => 15 - q) (lag bk bp bv) cv 16) (ek) (em)) := hD
        exact W.vret hx hb hr (fun t ht hW => ⟨⟨(), rfl, trivial, by rw [ht]; exact hP, hD⟩, hS.F ht⟩) hS.2.2 dX3_chooseHighest_26
      · obtain ⟨u, rfl⟩ : ∃ u, t = u + 1 := ⟨t - 1, by omega⟩
        have e1 : 16 - u = (16 - (u + 1)) + 1 := by omega
        have e2 : 15 - (16 - (u + 1)) = u := by omega
        have hl : lv_has ls 3 [(0, .ref (ad 0)), (1, .int (nI (q0))), (2, .int (nI (u)))] := hl
        refine lv_iload_n hx hb dX3_chooseHighest_10 rfl (lv_at hl 2 rfl) ?_
        refine q_if_lt (u := ((u : Nat) : Int)) (tgt := 26) hx hb dX3_chooseHighest_11 (by decide) (nI_toInt (by omega)) (fun c_11 => absurd c_11 (by omega)) (fun c_11 => ?_)
        refine lv_aload_n hx hb dX3_chooseHighest_14 rfl (lv_at hl 0 rfl) ?_
        refine lv_iload_n hx hb dX3_chooseHighest_15 rfl (lv_at hl 1 rfl) ?_
        refine lv_iload_n hx hb dX3_chooseHighest_16 rfl (lv_at hl 2 rfl) ?_
        have hPc : va_P D vwCl (wF cI cZ cQ ad (pat) (sent) (rep) (kept) (rc) (los) (wai) (set) (bad) (gon) (bk) (bp) (bv) ((chC bk q0 (fun q => 15 - q) (16 - (u + 1)))) ((chP bk q0 (fun q => 15 - q) cp (16 - (u + 1)))) ((chV bk q0 (fun q => 15 - q) (lag bk bp bv) cv (16 - (u + 1)))) (ek) (em)) H := hP
        refine q_cv (wc := (wF cI cZ cQ ad (pat) (sent) (rep) (kept) (rc) (los) (wai) (set) (bad) (gon) (bk) (bp) (bv) ((chC bk q0 (fun q => 15 - q) (16 - (u + 1)))) ((chP bk q0 (fun q => 15 - q) cp (16 - (u + 1)))) ((chV bk q0 (fun q => 15 - q) (lag bk bp bv) cv (16 - (u + 1)))) (ek) (em))) (wr := []) (w1 := fun _ => (wF cI cZ cQ ad (pat) (sent) (rep) (kept) (rc) (los) (wai) (set) (bad) (gon) (bk) (bp) (bv) (if q0 / 2 ^ u % 2 = 1 ∧ (chC bk q0 (fun q => 15 - q) (16 - (u + 1))) < bk then (chC bk q0 (fun q => 15 - q) (16 - (u + 1))) + 1 else (chC bk q0 (fun q => 15 - q) (16 - (u + 1)))) (if q0 / 2 ^ u % 2 = 1 ∧ (chC bk q0 (fun q => 15 - q) (16 - (u + 1))) < bk then ub (chP bk q0 (fun q => 15 - q) cp (16 - (u + 1))) (chC bk q0 (fun q => 15 - q) (16 - (u + 1))) (BitVec.ofNat 8 u) else (chP bk q0 (fun q => 15 - q) cp (16 - (u + 1)))) (if q0 / 2 ^ u % 2 = 1 ∧ (chC bk q0 (fun q => 15 - q) (16 - (u + 1))) < bk then ub (chV bk q0 (fun q => 15 - q) (lag bk bp bv) cv (16 - (u + 1))) (chC bk q0 (fun q => 15 - q) (16 - (u + 1))) (lag bk bp bv (BitVec.ofNat 8 u)) else (chV bk q0 (fun q => 15 - q) (lag bk bp bv) cv (16 - (u + 1)))) (ek) (em))) (va_runV (As := [.int (nI (q0)), .int (nI (u))]) (rest := []) ⟨hx, hb, hml, hown, hts⟩ (c_X3_chooseIfWanted l D cI cZ cQ cL (ad) (pat) (sent) (rep) (kept) (rc) (los) (wai) (set) (bad) (gon) (bk) (bp) (bv) (chC bk q0 (fun q => 15 - q) (16 - (u + 1))) (chP bk q0 (fun q => 15 - q) cp (16 - (u + 1))) (chV bk q0 (fun q => 15 - q) (lag bk bp bv) cv (16 - (u + 1))) (ek) (em) (q0) (u) H.size (hq) (by omega) (chC_le bk q0 (fun q => 15 - q) _) (hbk)) (cwV 2 hts gX3_chooseHighest_X3_chooseIfWanted rfl rfl rfl ⟨rfl, hd_X3_chooseIfWanted⟩ ⟨Nat.le_of_ble_eq_true rfl, Nat.le_of_ble_eq_true rfl⟩) (PW_v (q := (RX3, TX3, 13)) (ci := 2) (q0 := 0) hPc hK hD hN rfl rfl) rfl rfl hl.1 rfl (lv_room (Nat.le_of_ble_eq_true rfl)) dX3_chooseHighest_17 ⟨Nat.le_of_ble_eq_true rfl, Nat.le_of_ble_eq_true rfl⟩) hP hD hS hA [0, 1, 2, 3, 4, 5, 6, 7, 8, 9, 10, 11, 12, 13, 14, 15, 16, 17, 18, 19, 20, 21] [] rfl rfl (by decide) (by decide) (fun u_17 H locs h_17 hP hD hS => ?_)
        have hP : va_P D vwCl (wF cI cZ cQ ad (pat) (sent) (rep) (kept) (rc) (los) (wai) (set) (bad) (gon) (bk) (bp) (bv) (if q0 / 2 ^ u % 2 = 1 ∧ (chC bk q0 (fun q => 15 - q) (16 - (u + 1))) < bk then (chC bk q0 (fun q => 15 - q) (16 - (u + 1))) + 1 else (chC bk q0 (fun q => 15 - q) (16 - (u + 1)))) (if q0 / 2 ^ u % 2 = 1 ∧ (chC bk q0 (fun q => 15 - q) (16 - (u + 1))) < bk then ub (chP bk q0 (fun q => 15 - q) cp (16 - (u + 1))) (chC bk q0 (fun q => 15 - q) (16 - (u + 1))) (BitVec.ofNat 8 u) else (chP bk q0 (fun q => 15 - q) cp (16 - (u + 1)))) (if q0 / 2 ^ u % 2 = 1 ∧ (chC bk q0 (fun q => 15 - q) (16 - (u + 1))) < bk then ub (chV bk q0 (fun q => 15 - q) (lag bk bp bv) cv (16 - (u + 1))) (chC bk q0 (fun q => 15 - q) (16 - (u + 1))) (lag bk bp bv (BitVec.ofNat 8 u)) else (chV bk q0 (fun q => 15 - q) (lag bk bp bv) cv (16 - (u + 1)))) (ek) (em)) H := hP
        have hD : va_D A (wF cI cZ cQ ad (pat) (sent) (rep) (kept) (rc) (los) (wai) (set) (bad) (gon) (bk) (bp) (bv) (if q0 / 2 ^ u % 2 = 1 ∧ (chC bk q0 (fun q => 15 - q) (16 - (u + 1))) < bk then (chC bk q0 (fun q => 15 - q) (16 - (u + 1))) + 1 else (chC bk q0 (fun q => 15 - q) (16 - (u + 1)))) (if q0 / 2 ^ u % 2 = 1 ∧ (chC bk q0 (fun q => 15 - q) (16 - (u + 1))) < bk then ub (chP bk q0 (fun q => 15 - q) cp (16 - (u + 1))) (chC bk q0 (fun q => 15 - q) (16 - (u + 1))) (BitVec.ofNat 8 u) else (chP bk q0 (fun q => 15 - q) cp (16 - (u + 1)))) (if q0 / 2 ^ u % 2 = 1 ∧ (chC bk q0 (fun q => 15 - q) (16 - (u + 1))) < bk then ub (chV bk q0 (fun q => 15 - q) (lag bk bp bv) cv (16 - (u + 1))) (chC bk q0 (fun q => 15 - q) (16 - (u + 1))) (lag bk bp bv (BitVec.ofNat 8 u)) else (chV bk q0 (fun q => 15 - q) (lag bk bp bv) cv (16 - (u + 1)))) (ek) (em)) := hD
        refine lv_iinc (v := (pI u)) (lv' := [(2, .int (pI u)), (0, .ref (ad 0)), (1, .int (nI (q0)))]) hx hb dX3_chooseHighest_20 hl (k := 2) rfl (pI_m1 u) (by decide) rfl (fun ls hl => ?_)
        refine lv_goto (tgt := 10) hx hb dX3_chooseHighest_23 (by decide) ?_
        have eW : (wF cI cZ cQ ad (pat) (sent) (rep) (kept) (rc) (los) (wai) (set) (bad) (gon) (bk) (bp) (bv) (if q0 / 2 ^ u % 2 = 1 ∧ (chC bk q0 (fun q => 15 - q) (16 - (u + 1))) < bk then (chC bk q0 (fun q => 15 - q) (16 - (u + 1))) + 1 else (chC bk q0 (fun q => 15 - q) (16 - (u + 1)))) (if q0 / 2 ^ u % 2 = 1 ∧ (chC bk q0 (fun q => 15 - q) (16 - (u + 1))) < bk then ub (chP bk q0 (fun q => 15 - q) cp (16 - (u + 1))) (chC bk q0 (fun q => 15 - q) (16 - (u + 1))) (BitVec.ofNat 8 u) else (chP bk q0 (fun q => 15 - q) cp (16 - (u + 1)))) (if q0 / 2 ^ u % 2 = 1 ∧ (chC bk q0 (fun q => 15 - q) (16 - (u + 1))) < bk then ub (chV bk q0 (fun q => 15 - q) (lag bk bp bv) cv (16 - (u + 1))) (chC bk q0 (fun q => 15 - q) (16 - (u + 1))) (lag bk bp bv (BitVec.ofNat 8 u)) else (chV bk q0 (fun q => 15 - q) (lag bk bp bv) cv (16 - (u + 1)))) (ek) (em)) = (wF cI cZ cQ ad (pat) (sent) (rep) (kept) (rc) (los) (wai) (set) (bad) (gon) (bk) (bp) (bv) (chC bk q0 (fun q => 15 - q) (16 - u)) (chP bk q0 (fun q => 15 - q) cp (16 - u)) (chV bk q0 (fun q => 15 - q) (lag bk bp bv) cv (16 - u)) (ek) (em)) := by rw [e1]; simp only [chC, chP, chV, e2]
        rw [eW] at hP hD
        clear eW
        exact ih10_1 (u) (by omega) (by omega) _ _ hP hD hS ls (lv_sub hl [1, 2, 0] rfl)
  have eW : (wF cI cZ cQ ad (pat) (sent) (rep) (kept) (rc) (los) (wai) (set) (bad) (gon) (bk) (bp) (bv) (0) (cp) (cv) (ek) (em)) = (wF cI cZ cQ ad (pat) (sent) (rep) (kept) (rc) (los) (wai) (set) (bad) (gon) (bk) (bp) (bv) (chC bk q0 (fun q => 15 - q) (16 - 16)) (chP bk q0 (fun q => 15 - q) cp (16 - 16)) (chV bk q0 (fun q => 15 - q) (lag bk bp bv) cv (16 - 16)) (ek) (em)) := by rfl
  rw [eW] at hP hD
  clear eW
  exact L10_1 _ (16) (Nat.lt_succ_self _) (by omega) _ _ hP hD hS ls (lv_sub hl [1, 2, 0] rfl)
