theorem iwX4_layNeeds_X4 : ∀ w ∈ wsX40, w ∈ wsX4_layNeeds := by decide +kernel
set_option maxHeartbeats 4000000 in
set_option maxRecDepth 100000 in
theorem c_X4_layNeeds (l : Launch) (D : va_G) (cI cZ cQ cL : ClassId) (am : Nat → Nat) (k : Nat) (pat : Nat) (dat : Nat → B8) (sent : Nat) (rc : Nat) (los : Nat → Nat) (wai : Nat → Nat) (set : Nat → Nat) (bad : Nat → Nat) (gon : Nat → Nat) (rep : Nat) (sil : Nat) (thr : Nat) (na : Nat → Nat) (sz : Nat) (hrc : rc ≤ 6) (hset : ∀ r, r < 6 → set r < 65536) (hbk : k ≤ 8) (hgon : ∀ r, r < 6 → gon r ≤ 1) : Met l yX4_layNeeds wsX4_layNeeds ({ frames := 1, cells := 0, slots := 0, locals := 23 } : Room) (PW D (TY cI cZ cQ cL) (wM cI cZ am (k) (pat) (dat) (sent) (rc) (los) (wai) (set) (bad) (gon) (rep) (sil) (thr) (na)) sz [.ref (am 0)]) (QV D (va_A (wM cI cZ am (k) (pat) (dat) (sent) (rc) (los) (wai) (set) (bad) (gon) (rep) (sil) (thr) (na)) sz) (fun (_ : Unit) => True) (fun _ => (wM cI cZ am (k) (pat) (dat) (sent) (rc) (los) (wai) (set) (bad) (gon) (rep) (sil) (thr) (lay rc k set gon na)))) 0 0 (va_A (wM cI cZ am (k) (pat) (dat) (sent) (rc) (los) (wai) (set) (bad) (gon) (rep) (sil) (thr) (na)) sz) := by
  refine Met.ofW (cc := cX4_layNeeds) (maxL := 2) (ret := none) (by decide) rfl ?_
  intro p e s m args below meth c s₁ B hml hv
  obtain ⟨rfl, hsz, hP, hK, hD0, hN⟩ := hv
  have hx := B.exec
  have hb := B.bytes
  have hr := B.returns
  have hts := atoms_spec (ws := wsX4_layNeeds) B.pre
  have hown : s.vm.findClass RX4 = some m.cls := findClass_of_methodNamed B.named
  have hlocks := B.notSynchronized
  subst hsz
  have hD := hD0.self (sz := s.heap.size)
  generalize hAe : va_A (wM cI cZ am (k) (pat) (dat) (sent) (rc) (los) (wai) (set) (bad) (gon) (rep) (sil) (thr) (na)) s.heap.size = A at hD ⊢
  have hA : ∀ q : Nat, s.heap.size ≤ q → A q := fun q h => by rw [← hAe]; exact Or.inr h
  have hS : va_S A s.heap s.heap [] := va_S.rf
  have hl := lv_entry ([.ref (am 0)]) (n := 2) (Nat.le_of_ble_eq_true rfl)
  rw [lg_entry_eq]
  generalize (lg_sl ([.ref (am 0)]) ++ List.replicate (2 - (lg_sl ([.ref (am 0)])).length) Slot.unset).toArray = ls at hl ⊢
  have hl : lv_has ls 2 [(0, .ref (am 0))] := hl
  refine lv_iconst (v := nI (0)) hx hb dX4_layNeeds_0 (by decide) ?_
  refine lv_istore_n (lv' := [(1, .int (nI (0))), (0, .ref (am 0))]) hx hb dX4_layNeeds_1 rfl hl (by decide) rfl (fun ls hl => ?_)
  have L2_1 : ∀ (n2_1 : Nat) (i : Nat), rc - i < n2_1 → (i ≤ rc) → ∀ (H : Heap) (locs : List Loc), va_P D vwCl (wM cI cZ am (k) (pat) (dat) (sent) (rc) (los) (wai) (set) (bad) (gon) (rep) (sil) (thr) (lay i k set gon na)) H → va_D A (wM cI cZ am (k) (pat) (dat) (sent) (rc) (los) (wai) (set) (bad) (gon) (rep) (sil) (thr) (lay i k set gon na)) → va_S A s.heap H locs → ∀ (ls : Array Slot), lv_has ls 2 [(0, .ref (am 0)), (1, .int (nI (i)))] → W p l e (headSpec wsX4_layNeeds ({ frames := 1, cells := 0, slots := 0, locals := 23 } : Room)).room s m ([.ref (am 0)] : List Value).toArray below meth c H locs 0 0 (MQ below (QV D A (fun (_ : Unit) => True) (fun _ => (wM cI cZ am (k) (pat) (dat) (sent) (rc) (los) (wai) (set) (bad) (gon) (rep) (sil) (thr) (lay rc k set gon na)))) ([.ref (am 0)] : List Value).toArray s 0 0 A) (F0 m 2 ls []) := by
    intro n2_1
    induction n2_1 with
    | zero =>
      intro i hn2_1
      exact absurd hn2_1 (Nat.not_lt_zero _)
    | succ n2_1 ih2_1 =>
      intro i hn2_1 hi H locs hP hD hS ls hl
      refine lv_iload_n hx hb dX4_layNeeds_2 rfl (lv_at hl 1 rfl) ?_
      refine lv_aload_n hx hb dX4_layNeeds_3 rfl (lv_at hl 0 rfl) ?_
      refine va_get (D := D) (ci := 3) (v := .int (nI (rc))) (C := RX4) (T := TX4) (N := 14) hx hb hts iwX4_layNeeds_X4 hown hK hP 0 rfl rfl 4 (by decide) (hts (.fieldLink RX4 42 "RepairSenderModel" "receiverMany" "I") (List.mem_of_getElem? (i := 1) rfl)) (fun _ h9 => h9) rfl dX4_layNeeds_4 ?_
      refine q_icmp_ge (u := ((i : Nat) : Int)) (v := ((rc : Nat) : Int)) (tgt := 40) hx hb dX4_layNeeds_7 (by decide) (nI_toInt (by omega)) (nI_toInt (by omega)) (fun c_7 => ?_) (fun c_7 => ?_)
      · obtain rfl : rc = i := by omega
        have hP : va_P D vwCl (wM cI cZ am (k) (pat) (dat) (sent) (rc) (los) (wai) (set) (bad) (gon) (rep) (sil) (thr) (lay rc k set gon na)) H := hP
        have hD : va_D A (wM cI cZ am (k) (pat) (dat) (sent) (rc) (los) (wai) (set) (bad) (gon) (rep) (sil) (thr) (lay rc k set gon na)) := hD
        exact W.vret hx hb hr (fun t ht hW => ⟨⟨(), rfl, trivial, by rw [ht]; exact hP, hD⟩, hS.F ht⟩) hS.2.2 dX4_layNeeds_40
      · skip
        have hg6 := hgon i (by omega)
        refine lv_aload_n hx hb dX4_layNeeds_10 rfl (lv_at hl 0 rfl) ?_
        refine va_get (D := D) (ci := 3) (v := .ref (am 7)) (C := RX4) (T := TX4) (N := 14) hx hb hts iwX4_layNeeds_X4 hown hK hP 0 rfl rfl 13 (by decide) (hts (.fieldLink RX4 29 "RepairSenderModel" "needsAhead" "[I") (List.mem_of_getElem? (i := 2) rfl)) (fun _ h9 => h9) rfl dX4_layNeeds_11 ?_
        refine lv_iload_n hx hb dX4_layNeeds_14 rfl (lv_at hl 1 rfl) ?_
        refine lv_aload_n hx hb dX4_layNeeds_15 rfl (lv_at hl 0 rfl) ?_
        refine va_get (D := D) (ci := 3) (v := .ref (am 6)) (C := RX4) (T := TX4) (N := 14) hx hb hts iwX4_layNeeds_X4 hown hK hP 0 rfl rfl 9 (by decide) (hts (.fieldLink RX4 25 "RepairSenderModel" "isGone" "[Z") (List.mem_of_getElem? (i := 3) rfl)) (fun _ h9 => h9) rfl dX4_layNeeds_16 ?_
        refine lv_iload_n hx hb dX4_layNeeds_19 rfl (lv_at hl 1 rfl) ?_
        refine q_zald (f := gon) (j := i) hx hb hK hP 6 1 rfl rfl (by omega) (by decide) dX4_layNeeds_20 ?_
        refine q_if_eq (u := ((gon i : Nat) : Int)) (tgt := 28) hx hb dX4_layNeeds_21 (by decide) (nI_toInt (by omega)) (fun c_21 => ?_) (fun c_21 => ?_)
        · have hnd : k - pc (set i) = ndf k set gon i := (if_pos (by omega)).symm
          refine lv_aload_n hx hb dX4_layNeeds_28 rfl (lv_at hl 0 rfl) ?_
          refine lv_iload_n hx hb dX4_layNeeds_29 rfl (lv_at hl 1 rfl) ?_
          have hPc : va_P D vwCl (wM cI cZ am (k) (pat) (dat) (sent) (rc) (los) (wai) (set) (bad) (gon) (rep) (sil) (thr) ((lay i k set gon na))) H := hP
          refine q_csi (va_runV (As := [.int (nI (i))]) (rest := [.int (nI (i)), .ref (am 7)]) ⟨hx, hb, hml, hown, hts⟩ (c_X4_needOf l D cI cZ cQ cL (am) (k) (pat) (dat) (sent) (rc) (los) (wai) (set) (bad) (gon) (rep) (sil) (thr) (lay i k set gon na) (i) H.size (by omega) (hset) (hbk)) (cwV 1 hts gX4_layNeeds_X4_needOf rfl rfl rfl ⟨rfl, hd_X4_needOf⟩ ⟨Nat.le_of_ble_eq_true rfl, Nat.le_of_ble_eq_true rfl⟩) (PW_v (q := (RX4, TX4, 14)) (ci := 3) (q0 := 0) hPc hK hD hN rfl rfl) rfl rfl hl.1 rfl (lv_room (Nat.le_of_ble_eq_true rfl)) dX4_layNeeds_30 ⟨Nat.le_of_ble_eq_true rfl, Nat.le_of_ble_eq_true rfl⟩) (fun r_30 hr_30 => ?_)
          obtain rfl : r_30 = nI (k - pc (set i)) := hr_30
          refine q_iast (f := (lay i k set gon na)) (j := i) (y := k - pc (set i)) hx hb hK hP hD hS 7 0 rfl rfl (by omega) (by decide) dX4_layNeeds_33 (fun H locs hP hD hS => ?_)
          have hP : va_P D vwCl (wM cI cZ am (k) (pat) (dat) (sent) (rc) (los) (wai) (set) (bad) (gon) (rep) (sil) (thr) (un (lay i k set gon na) i (k - pc (set i)))) H := hP
          have hD : va_D A (wM cI cZ am (k) (pat) (dat) (sent) (rc) (los) (wai) (set) (bad) (gon) (rep) (sil) (thr) (un (lay i k set gon na) i (k - pc (set i)))) := hD
          refine lv_iinc (v := nI (i + 1)) (lv' := [(1, .int (nI (i + 1))), (0, .ref (am 0))]) hx hb dX4_layNeeds_34 hl (k := 1) rfl (show nI (i) + Int32.ofInt 1 = nI (i + 1) from nI_add (i) 1) (by decide) rfl (fun ls hl => ?_)
          refine lv_goto (tgt := 2) hx hb dX4_layNeeds_37 (by decide) ?_
          have eW : (wM cI cZ am (k) (pat) (dat) (sent) (rc) (los) (wai) (set) (bad) (gon) (rep) (sil) (thr) (un (lay i k set gon na) i (k - pc (set i)))) = (wM cI cZ am (k) (pat) (dat) (sent) (rc) (los) (wai) (set) (bad) (gon) (rep) (sil) (thr) (lay (i + 1) k set gon na)) := by rw [lay_s hnd]
          rw [eW] at hP hD
          clear eW
          exact ih2_1 (i + 1) (by omega) (by omega) _ _ hP hD hS ls (lv_sub hl [1, 0] rfl)
        · have hnd : 0 = ndf k set gon i := (if_neg (by omega)).symm
          refine lv_iconst (v := nI (0)) hx hb dX4_layNeeds_24 (by decide) ?_
          refine lv_goto (tgt := 33) hx hb dX4_layNeeds_25 (by decide) ?_
          refine q_iast (f := (lay i k set gon na)) (j := i) (y := 0) hx hb hK hP hD hS 7 0 rfl rfl (by omega) (by decide) dX4_layNeeds_33 (fun H locs hP hD hS => ?_)
          have hP : va_P D vwCl (wM cI cZ am (k) (pat) (dat) (sent) (rc) (los) (wai) (set) (bad) (gon) (rep) (sil) (thr) (un (lay i k set gon na) i 0)) H := hP
          have hD : va_D A (wM cI cZ am (k) (pat) (dat) (sent) (rc) (los) (wai) (set) (bad) (gon) (rep) (sil) (thr) (un (lay i k set gon na) i 0)) := hD
          refine lv_iinc (v := nI (i + 1)) (lv' := [(1, .int (nI (i + 1))), (0, .ref (am 0))]) hx hb dX4_layNeeds_34 hl (k := 1) rfl (show nI (i) + Int32.ofInt 1 = nI (i + 1) from nI_add (i) 1) (by decide) rfl (fun ls hl => ?_)
          refine lv_goto (tgt := 2) hx hb dX4_layNeeds_37 (by decide) ?_
          have eW : (wM cI cZ am (k) (pat) (dat) (sent) (rc) (los) (wai) (set) (bad) (gon) (rep) (sil) (thr) (un (lay i k set gon na) i 0)) = (wM cI cZ am (k) (pat) (dat) (sent) (rc) (los) (wai) (set) (bad) (gon) (rep) (sil) (thr) (lay (i + 1) k set gon na)) := by rw [lay_s hnd]
          rw [eW] at hP hD
          clear eW
          exact ih2_1 (i + 1) (by omega) (by omega) _ _ hP hD hS ls (lv_sub hl [1, 0] rfl)
  have eW : (wM cI cZ am (k) (pat) (dat) (sent) (rc) (los) (wai) (set) (bad) (gon) (rep) (sil) (thr) (na)) = (wM cI cZ am (k) (pat) (dat) (sent) (rc) (los) (wai) (set) (bad) (gon) (rep) (sil) (thr) (lay 0 k set gon na)) := by rw [lay_0]
  rw [eW] at hP hD
  clear eW
  exact L2_1 _ (0) (Nat.lt_succ_self _) (by omega) _ _ hP hD hS ls (lv_sub hl [1, 0] rfl)

theorem iwX4_report_X4 : ∀ w ∈ wsX40, w ∈ wsX4_report := by decide +kernel
set_option maxHeartbeats 4000000 in
set_option maxRecDepth 100000 in
theorem c_X4_report (l : Launch) (D : va_G) (cI cZ cQ cL : ClassId) (am : Nat → Nat) (k : Nat) (pat : Nat) (dat : Nat → B8) (sent : Nat) (rc : Nat) (los : Nat → Nat) (wai : Nat → Nat) (set : Nat → Nat) (bad : Nat → Nat) (gon : Nat → Nat) (rep : Nat) (sil : Nat) (thr : Nat) (na : Nat → Nat) (wt : Nat) (hbd : Nat) (sz : Nat) (hrc : rc ≤ 6) (hwai : ∀ r, r < 6 → wai r ≤ 20) (hna : ∀ r, r < rc → na r ≤ 8) (hwt : wt ≤ 20) (hhb : hbd ≤ 8) : Met l yX4_report wsX4_report ({ frames := 0, cells := 0, slots := 0, locals := 0 } : Room) (PW D (TY cI cZ cQ cL) (wM cI cZ am (k) (pat) (dat) (sent) (rc) (los) (wai) (set) (bad) (gon) (rep) (sil) (thr) (na)) sz [.ref (am 0), .int (nI (wt)), .int (nI (hbd))]) (QI D (va_A (wM cI cZ am (k) (pat) (dat) (sent) (rc) (los) (wai) (set) (bad) (gon) (rep) (sil) (thr) (na)) sz) (fun z9 (_ : Unit) => z9 = nI (hrH na wai wt hbd rc)) (fun _ => (wM cI cZ am (k) (pat) (dat) (sent) (rc) (los) (wai) (set) (bad) (gon) (rep + hrR na wai wt hbd rc) (sil + hrK na wai wt hbd rc) (thr) (na)))) 0 0 (va_A (wM cI cZ am (k) (pat) (dat) (sent) (rc) (los) (wai) (set) (bad) (gon) (rep) (sil) (thr) (na)) sz) := by
  refine Met.ofW (cc := cX4_report) (maxL := 6) (ret := (some .int)) (by decide) rfl ?_
  intro p e s m args below meth c s₁ B hml hv
  obtain ⟨rfl, hsz, hP, hK, hD0, hN⟩ := hv
  have hx := B.exec
  have hb := B.bytes
  have hr := B.returns
  have hts := atoms_spec (ws := wsX4_report) B.pre
  have hown : s.vm.findClass RX4 = some m.cls := findClass_of_methodNamed B.named
  have hlocks := B.notSynchronized
  subst hsz
  have hD := hD0.self (sz := s.heap.size)
  generalize hAe : va_A (wM cI cZ am (k) (pat) (dat) (sent) (rc) (los) (wai) (set) (bad) (gon) (rep) (sil) (thr) (na)) s.heap.size = A at hD ⊢
  have hA : ∀ q : Nat, s.heap.size ≤ q → A q := fun q h => by rw [← hAe]; exact Or.inr h
  have hS : va_S A s.heap s.heap [] := va_S.rf
  have hl := lv_entry ([.ref (am 0), .int (nI (wt)), .int (nI (hbd))]) (n := 6) (Nat.le_of_ble_eq_true rfl)
  rw [lg_entry_eq]
  generalize (lg_sl ([.ref (am 0), .int (nI (wt)), .int (nI (hbd))]) ++ List.replicate (6 - (lg_sl ([.ref (am 0), .int (nI (wt)), .int (nI (hbd))])).length) Slot.unset).toArray = ls at hl ⊢
  have hl : lv_has ls 6 [(0, .ref (am 0)), (1, .int (nI (wt))), (2, .int (nI (hbd)))] := hl
  refine lv_iload_n hx hb dX4_report_0 rfl (lv_at hl 2 rfl) ?_
  refine lv_istore_n (lv' := [(3, .int (nI (hbd))), (0, .ref (am 0)), (1, .int (nI (wt))), (2, .int (nI (hbd)))]) hx hb dX4_report_1 rfl hl (by decide) rfl (fun ls hl => ?_)
  refine lv_iconst (v := nI (0)) hx hb dX4_report_2 (by decide) ?_
  refine lv_istore (lv' := [(4, .int (nI (0))), (3, .int (nI (hbd))), (0, .ref (am 0)), (1, .int (nI (wt))), (2, .int (nI (hbd)))]) hx hb dX4_report_3 hl (by decide) rfl (fun ls hl => ?_)
  have L5_1 : ∀ (n5_1 : Nat) (i : Nat), rc - i < n5_1 → (i ≤ rc) → ∀ (H : Heap) (locs : List Loc), va_P D vwCl (wM cI cZ am (k) (pat) (dat) (sent) (rc) (los) (wai) (set) (bad) (gon) (rep + hrR na wai wt hbd i) (sil + hrK na wai wt hbd i) (thr) (na)) H → va_D A (wM cI cZ am (k) (pat) (dat) (sent) (rc) (los) (wai) (set) (bad) (gon) (rep + hrR na wai wt hbd i) (sil + hrK na wai wt hbd i) (thr) (na)) → va_S A s.heap H locs → ∀ (ls : Array Slot), lv_has ls 6 [(0, .ref (am 0)), (1, .int (nI (wt))), (2, .int (nI (hbd))), (3, .int (nI (hrH na wai wt hbd i))), (4, .int (nI (i)))] → W p l e (headSpec wsX4_report ({ frames := 0, cells := 0, slots := 0, locals := 0 } : Room)).room s m ([.ref (am 0), .int (nI (wt)), .int (nI (hbd))] : List Value).toArray below meth c H locs 0 0 (MQ below (QI D A (fun z9 (_ : Unit) => z9 = nI (hrH na wai wt hbd rc)) (fun _ => (wM cI cZ am (k) (pat) (dat) (sent) (rc) (los) (wai) (set) (bad) (gon) (rep + hrR na wai wt hbd rc) (sil + hrK na wai wt hbd rc) (thr) (na)))) ([.ref (am 0), .int (nI (wt)), .int (nI (hbd))] : List Value).toArray s 0 0 A) (F0 m 5 ls []) := by
    intro n5_1
    induction n5_1 with
    | zero =>
      intro i hn5_1
      exact absurd hn5_1 (Nat.not_lt_zero _)
    | succ n5_1 ih5_1 =>
      intro i hn5_1 hi H locs hP hD hS ls hl
      refine lv_iload hx hb dX4_report_5 (lv_at hl 4 rfl) ?_
      refine lv_aload_n hx hb dX4_report_7 rfl (lv_at hl 0 rfl) ?_
      refine va_get (D := D) (ci := 3) (v := .int (nI (rc))) (C := RX4) (T := TX4) (N := 14) hx hb hts iwX4_report_X4 hown hK hP 0 rfl rfl 4 (by decide) (hts (.fieldLink RX4 42 "RepairSenderModel" "receiverMany" "I") (List.mem_of_getElem? (i := 1) rfl)) (fun _ h9 => h9) rfl dX4_report_8 ?_
      refine q_icmp_ge (u := ((i : Nat) : Int)) (v := ((rc : Nat) : Int)) (tgt := 120) hx hb dX4_report_11 (by decide) (nI_toInt (by omega)) (nI_toInt (by omega)) (fun c_11 => ?_) (fun c_11 => ?_)
      · obtain rfl : rc = i := by omega
        refine lv_iload_n hx hb dX4_report_120 rfl (lv_at hl 3 rfl) ?_
        have hP : va_P D vwCl (wM cI cZ am (k) (pat) (dat) (sent) (rc) (los) (wai) (set) (bad) (gon) (rep + hrR na wai wt hbd rc) (sil + hrK na wai wt hbd rc) (thr) (na)) H := hP
        have hD : va_D A (wM cI cZ am (k) (pat) (dat) (sent) (rc) (los) (wai) (set) (bad) (gon) (rep + hrR na wai wt hbd rc) (sil + hrK na wai wt hbd rc) (thr) (na)) := hD
        exact W.iret (v := nI (hrH na wai wt hbd rc)) hx hb hr (fun t ht hW => ⟨⟨_, (), rfl, (by rfl), by rw [ht]; exact hP, hD⟩, hS.F ht⟩) hS.2.2 dX4_report_121
      · skip
        have hw6 := hwai i (by omega)
        have hn6 := hna i (by omega)
        have hhl : hrH na wai wt hbd i ≤ 8 := hrH_le hhb i (fun r hr => hna r (by omega))
        have hge : hbd ≤ hrH na wai wt hbd i := hrH_ge na wai wt hbd i
        refine lv_aload_n hx hb dX4_report_14 rfl (lv_at hl 0 rfl) ?_
        refine va_get (D := D) (ci := 3) (v := .ref (am 3)) (C := RX4) (T := TX4) (N := 14) hx hb hts iwX4_report_X4 hown hK hP 0 rfl rfl 6 (by decide) (hts (.fieldLink RX4 16 "RepairSenderModel" "waits" "[I") (List.mem_of_getElem? (i := 2) rfl)) (fun _ h9 => h9) rfl dX4_report_15 ?_
        refine lv_iload hx hb dX4_report_18 (lv_at hl 4 rfl) ?_
        refine q_iald (f := wai) (j := i) hx hb hK hP 3 0 rfl rfl (by omega) (by decide) dX4_report_20 ?_
        refine lv_iload_n hx hb dX4_report_21 rfl (lv_at hl 1 rfl) ?_
        refine q_icmp_ne (u := ((wai i : Nat) : Int)) (v := ((wt : Nat) : Int)) (tgt := 114) hx hb dX4_report_22 (by decide) (nI_toInt (by omega)) (nI_toInt (by omega)) (fun c_22 => ?_) (fun c_22 => ?_)
        · have eR : hrR na wai wt hbd (i + 1) = hrR na wai wt hbd i := if_neg (by omega)
          have eK : hrK na wai wt hbd (i + 1) = hrK na wai wt hbd i := if_neg (by omega)
          have eH : hrH na wai wt hbd (i + 1) = hrH na wai wt hbd i := if_neg (by omega)
          refine lv_iinc (v := nI (i + 1)) (lv' := [(4, .int (nI (i + 1))), (0, .ref (am 0)), (1, .int (nI (wt))), (2, .int (nI (hbd))), (3, .int (nI (hrH na wai wt hbd i)))]) hx hb dX4_report_114 hl (k := 4) rfl (show nI (i) + Int32.ofInt 1 = nI (i + 1) from nI_add (i) 1) (by decide) rfl (fun ls hl => ?_)
          refine lv_goto (tgt := 5) hx hb dX4_report_117 (by decide) ?_
          have eW : (wM cI cZ am (k) (pat) (dat) (sent) (rc) (los) (wai) (set) (bad) (gon) (rep + hrR na wai wt hbd i) (sil + hrK na wai wt hbd i) (thr) (na)) = (wM cI cZ am (k) (pat) (dat) (sent) (rc) (los) (wai) (set) (bad) (gon) (rep + hrR na wai wt hbd (i + 1)) (sil + hrK na wai wt hbd (i + 1)) (thr) (na)) := by rw [eR, eK]; try rfl
          rw [eW] at hP hD
          clear eW
          exact ih5_1 (i + 1) (by omega) (by omega) _ _ hP hD hS ls (lv_sub hl [1, 2, 3, 4, 0] (by rw [eH]; rfl))
        · skip
          refine lv_aload_n hx hb dX4_report_25 rfl (lv_at hl 0 rfl) ?_
          refine va_get (D := D) (ci := 3) (v := .ref (am 7)) (C := RX4) (T := TX4) (N := 14) hx hb hts iwX4_report_X4 hown hK hP 0 rfl rfl 13 (by decide) (hts (.fieldLink RX4 29 "RepairSenderModel" "needsAhead" "[I") (List.mem_of_getElem? (i := 3) rfl)) (fun _ h9 => h9) rfl dX4_report_26 ?_
          refine lv_iload hx hb dX4_report_29 (lv_at hl 4 rfl) ?_
          refine q_iald (f := na) (j := i) hx hb hK hP 7 0 rfl rfl (by omega) (by decide) dX4_report_31 ?_
          refine q_if_le (u := ((na i : Nat) : Int)) (tgt := 114) hx hb dX4_report_32 (by decide) (nI_toInt (by omega)) (fun c_32 => ?_) (fun c_32 => ?_)
          · have eR : hrR na wai wt hbd (i + 1) = hrR na wai wt hbd i := if_neg (by omega)
            have eK : hrK na wai wt hbd (i + 1) = hrK na wai wt hbd i := if_neg (by omega)
            have eH : hrH na wai wt hbd (i + 1) = hrH na wai wt hbd i := if_neg (by omega)
            refine lv_iinc (v := nI (i + 1)) (lv' := [(4, .int (nI (i + 1))), (0, .ref (am 0)), (1, .int (nI (wt))), (2, .int (nI (hbd))), (3, .int (nI (hrH na wai wt hbd i)))]) hx hb dX4_report_114 hl (k := 4) rfl (show nI (i) + Int32.ofInt 1 = nI (i + 1) from nI_add (i) 1) (by decide) rfl (fun ls hl => ?_)
            refine lv_goto (tgt := 5) hx hb dX4_report_117 (by decide) ?_
            have eW : (wM cI cZ am (k) (pat) (dat) (sent) (rc) (los) (wai) (set) (bad) (gon) (rep + hrR na wai wt hbd i) (sil + hrK na wai wt hbd i) (thr) (na)) = (wM cI cZ am (k) (pat) (dat) (sent) (rc) (los) (wai) (set) (bad) (gon) (rep + hrR na wai wt hbd (i + 1)) (sil + hrK na wai wt hbd (i + 1)) (thr) (na)) := by rw [eR, eK]; try rfl
            rw [eW] at hP hD
            clear eW
            exact ih5_1 (i + 1) (by omega) (by omega) _ _ hP hD hS ls (lv_sub hl [1, 2, 3, 4, 0] (by rw [eH]; rfl))
          · skip
            refine lv_iload_n hx hb dX4_report_35 rfl (lv_at hl 2 rfl) ?_
            refine lv_aload_n hx hb dX4_report_36 rfl (lv_at hl 0 rfl) ?_
            refine va_get (D := D) (ci := 3) (v := .ref (am 7)) (C := RX4) (T := TX4) (N := 14) hx hb hts iwX4_report_X4 hown hK hP 0 rfl rfl 13 (by decide) (hts (.fieldLink RX4 29 "RepairSenderModel" "needsAhead" "[I") (List.mem_of_getElem? (i := 3) rfl)) (fun _ h9 => h9) rfl dX4_report_37 ?_
            refine lv_iload hx hb dX4_report_40 (lv_at hl 4 rfl) ?_
            refine q_iald (f := na) (j := i) hx hb hK hP 7 0 rfl rfl (by omega) (by decide) dX4_report_42 ?_
            refine q_icmp_lt (u := ((hbd : Nat) : Int)) (v := ((na i : Nat) : Int)) (tgt := 50) hx hb dX4_report_43 (by decide) (nI_toInt (by omega)) (nI_toInt (by omega)) (fun c_43 => ?_) (fun c_43 => ?_)
            · have eR : hrR na wai wt hbd (i + 1) = hrR na wai wt hbd i + 1 := if_pos (by omega)
              have eK : hrK na wai wt hbd (i + 1) = hrK na wai wt hbd i := if_neg (by omega)
              have eX : hrH na wai wt hbd (i + 1) = max (hrH na wai wt hbd i) (na i) := if_pos (by omega)
              refine lv_iconst (v := nI (0)) hx hb dX4_report_50 (by decide) ?_
              refine lv_istore (lv' := [(5, .int (nI (0))), (0, .ref (am 0)), (1, .int (nI (wt))), (2, .int (nI (hbd))), (3, .int (nI (hrH na wai wt hbd i))), (4, .int (nI (i)))]) hx hb dX4_report_51 hl (by decide) rfl (fun ls hl => ?_)
              refine lv_aload_n hx hb dX4_report_53 rfl (lv_at hl 1 rfl) ?_
              refine lv_dup hx hb dX4_report_54 rfl ?_
              refine va_get (D := D) (ci := 3) (v := .int (nI (rep + hrR na wai wt hbd i))) (C := RX4) (T := TX4) (N := 14) hx hb hts iwX4_report_X4 hown hK hP 0 rfl rfl 10 (by decide) (hts (.fieldLink RX4 52 "RepairSenderModel" "reportMany" "I") (List.mem_of_getElem? (i := 4) rfl)) (fun _ h9 => h9) rfl dX4_report_55 ?_
              refine lv_iload hx hb dX4_report_58 (lv_at hl 0 rfl) ?_
              refine q_if_eq (u := ((0 : Nat) : Int)) (tgt := 67) hx hb dX4_report_60 (by decide) (nI_toInt (by omega)) (fun _ => ?_) (fun c_60 => absurd c_60 (by decide))
              refine lv_iconst (v := nI (1)) hx hb dX4_report_67 (by decide) ?_
              refine lv_iadd hx hb dX4_report_68 ?_
              refine q_top (show (nI (rep + hrR na wai wt hbd i) + nI (1)) = nI ((rep + hrR na wai wt hbd i) + 1) from nI_add _ _) ?_
              refine va_put (D := D) (ci := 3) (v := .int (nI ((rep + hrR na wai wt hbd i) + 1))) (ty := .int) (C := RX4) (T := TX4) (N := 14) hx hb hts iwX4_report_X4 tyX4 tyX4_ok nmX4 hown hK hP hD hS 0 rfl rfl 10 (by decide) (hts (.fieldLink RX4 52 "RepairSenderModel" "reportMany" "I") (List.mem_of_getElem? (i := 4) rfl)) (fun _ h9 => h9) rfl (by decide +kernel) rfl rfl (Nat.le_of_ble_eq_true rfl) dX4_report_69 (fun H locs hP hD hS => ?_)
              have hP : va_P D vwCl (wM cI cZ am (k) (pat) (dat) (sent) (rc) (los) (wai) (set) (bad) (gon) ((rep + hrR na wai wt hbd i) + 1) (sil + hrK na wai wt hbd i) (thr) (na)) H := hP
              have hD : va_D A (wM cI cZ am (k) (pat) (dat) (sent) (rc) (los) (wai) (set) (bad) (gon) ((rep + hrR na wai wt hbd i) + 1) (sil + hrK na wai wt hbd i) (thr) (na)) := hD
              refine lv_aload_n hx hb dX4_report_72 rfl (lv_at hl 1 rfl) ?_
              refine lv_dup hx hb dX4_report_73 rfl ?_
              refine va_get (D := D) (ci := 3) (v := .int (nI (sil + hrK na wai wt hbd i))) (C := RX4) (T := TX4) (N := 14) hx hb hts iwX4_report_X4 hown hK hP 0 rfl rfl 11 (by decide) (hts (.fieldLink RX4 55 "RepairSenderModel" "silentMany" "I") (List.mem_of_getElem? (i := 5) rfl)) (fun _ h9 => h9) rfl dX4_report_74 ?_
              refine lv_iload hx hb dX4_report_77 (lv_at hl 0 rfl) ?_
              refine q_if_eq (u := ((0 : Nat) : Int)) (tgt := 86) hx hb dX4_report_79 (by decide) (nI_toInt (by omega)) (fun _ => ?_) (fun c_79 => absurd c_79 (by decide))
              refine lv_iconst (v := nI (0)) hx hb dX4_report_86 (by decide) ?_
              refine lv_iadd hx hb dX4_report_87 ?_
              refine q_top (show (nI (sil + hrK na wai wt hbd i) + nI (0)) = nI ((sil + hrK na wai wt hbd i) + 0) from nI_add _ _) ?_
              refine va_put (D := D) (ci := 3) (v := .int (nI ((sil + hrK na wai wt hbd i) + 0))) (ty := .int) (C := RX4) (T := TX4) (N := 14) hx hb hts iwX4_report_X4 tyX4 tyX4_ok nmX4 hown hK hP hD hS 0 rfl rfl 11 (by decide) (hts (.fieldLink RX4 55 "RepairSenderModel" "silentMany" "I") (List.mem_of_getElem? (i := 5) rfl)) (fun _ h9 => h9) rfl (by decide +kernel) rfl rfl (Nat.le_of_ble_eq_true rfl) dX4_report_88 (fun H locs hP hD hS => ?_)
              have hP : va_P D vwCl (wM cI cZ am (k) (pat) (dat) (sent) (rc) (los) (wai) (set) (bad) (gon) ((rep + hrR na wai wt hbd i) + 1) ((sil + hrK na wai wt hbd i) + 0) (thr) (na)) H := hP
              have hD : va_D A (wM cI cZ am (k) (pat) (dat) (sent) (rc) (los) (wai) (set) (bad) (gon) ((rep + hrR na wai wt hbd i) + 1) ((sil + hrK na wai wt hbd i) + 0) (thr) (na)) := hD
              refine lv_aload_n hx hb dX4_report_91 rfl (lv_at hl 1 rfl) ?_
              refine va_get (D := D) (ci := 3) (v := .ref (am 7)) (C := RX4) (T := TX4) (N := 14) hx hb hts iwX4_report_X4 hown hK hP 0 rfl rfl 13 (by decide) (hts (.fieldLink RX4 29 "RepairSenderModel" "needsAhead" "[I") (List.mem_of_getElem? (i := 3) rfl)) (fun _ h9 => h9) rfl dX4_report_92 ?_
              refine lv_iload hx hb dX4_report_95 (lv_at hl 5 rfl) ?_
              refine q_iald (f := na) (j := i) hx hb hK hP 7 0 rfl rfl (by omega) (by decide) dX4_report_97 ?_
              refine lv_iload_n hx hb dX4_report_98 rfl (lv_at hl 4 rfl) ?_
              refine q_icmp_le (u := ((na i : Nat) : Int)) (v := ((hrH na wai wt hbd i : Nat) : Int)) (tgt := 112) hx hb dX4_report_99 (by decide) (nI_toInt (by omega)) (nI_toInt (by omega)) (fun c_99 => ?_) (fun c_99 => ?_)
              · have eH : hrH na wai wt hbd (i + 1) = hrH na wai wt hbd i := by omega
                refine lv_iload_n hx hb dX4_report_112 rfl (lv_at hl 4 rfl) ?_
                refine lv_istore_n (lv' := [(3, .int (nI (hrH na wai wt hbd i))), (5, .int (nI (0))), (0, .ref (am 0)), (1, .int (nI (wt))), (2, .int (nI (hbd))), (4, .int (nI (i)))]) hx hb dX4_report_113 rfl hl (by decide) rfl (fun ls hl => ?_)
                refine lv_iinc (v := nI (i + 1)) (lv' := [(4, .int (nI (i + 1))), (3, .int (nI (hrH na wai wt hbd i))), (5, .int (nI (0))), (0, .ref (am 0)), (1, .int (nI (wt))), (2, .int (nI (hbd)))]) hx hb dX4_report_114 hl (k := 5) rfl (show nI (i) + Int32.ofInt 1 = nI (i + 1) from nI_add (i) 1) (by decide) rfl (fun ls hl => ?_)
                refine lv_goto (tgt := 5) hx hb dX4_report_117 (by decide) ?_
                have eW : (wM cI cZ am (k) (pat) (dat) (sent) (rc) (los) (wai) (set) (bad) (gon) ((rep + hrR na wai wt hbd i) + 1) ((sil + hrK na wai wt hbd i) + 0) (thr) (na)) = (wM cI cZ am (k) (pat) (dat) (sent) (rc) (los) (wai) (set) (bad) (gon) (rep + hrR na wai wt hbd (i + 1)) (sil + hrK na wai wt hbd (i + 1)) (thr) (na)) := by rw [eR, eK]; try rfl
                rw [eW] at hP hD
                clear eW
                exact ih5_1 (i + 1) (by omega) (by omega) _ _ hP hD hS ls (lv_sub hl [3, 4, 5, 1, 0] (by rw [eH]; rfl))
              · have eH : hrH na wai wt hbd (i + 1) = na i := by omega
                refine lv_aload_n hx hb dX4_report_102 rfl (lv_at hl 1 rfl) ?_
                refine va_get (D := D) (ci := 3) (v := .ref (am 7)) (C := RX4) (T := TX4) (N := 14) hx hb hts iwX4_report_X4 hown hK hP 0 rfl rfl 13 (by decide) (hts (.fieldLink RX4 29 "RepairSenderModel" "needsAhead" "[I") (List.mem_of_getElem? (i := 3) rfl)) (fun _ h9 => h9) rfl dX4_report_103 ?_
                refine lv_iload hx hb dX4_report_106 (lv_at hl 5 rfl) ?_
                refine q_iald (f := na) (j := i) hx hb hK hP 7 0 rfl rfl (by omega) (by decide) dX4_report_108 ?_
                refine lv_goto (tgt := 113) hx hb dX4_report_109 (by decide) ?_
                refine lv_istore_n (lv' := [(3, .int (nI (na i))), (5, .int (nI (0))), (0, .ref (am 0)), (1, .int (nI (wt))), (2, .int (nI (hbd))), (4, .int (nI (i)))]) hx hb dX4_report_113 rfl hl (by decide) rfl (fun ls hl => ?_)
                refine lv_iinc (v := nI (i + 1)) (lv' := [(4, .int (nI (i + 1))), (3, .int (nI (na i))), (5, .int (nI (0))), (0, .ref (am 0)), (1, .int (nI (wt))), (2, .int (nI (hbd)))]) hx hb dX4_report_114 hl (k := 5) rfl (show nI (i) + Int32.ofInt 1 = nI (i + 1) from nI_add (i) 1) (by decide) rfl (fun ls hl => ?_)
                refine lv_goto (tgt := 5) hx hb dX4_report_117 (by decide) ?_
                have eW : (wM cI cZ am (k) (pat) (dat) (sent) (rc) (los) (wai) (set) (bad) (gon) ((rep + hrR na wai wt hbd i) + 1) ((sil + hrK na wai wt hbd i) + 0) (thr) (na)) = (wM cI cZ am (k) (pat) (dat) (sent) (rc) (los) (wai) (set) (bad) (gon) (rep + hrR na wai wt hbd (i + 1)) (sil + hrK na wai wt hbd (i + 1)) (thr) (na)) := by rw [eR, eK]; try rfl
                rw [eW] at hP hD
                clear eW
                exact ih5_1 (i + 1) (by omega) (by omega) _ _ hP hD hS ls (lv_sub hl [3, 4, 5, 1, 0] (by rw [eH]; rfl))
            · have eR : hrR na wai wt hbd (i + 1) = hrR na wai wt hbd i := if_neg (by omega)
              have eK : hrK na wai wt hbd (i + 1) = hrK na wai wt hbd i + 1 := if_pos (by omega)
              have eX : hrH na wai wt hbd (i + 1) = hrH na wai wt hbd i := if_neg (by omega)
              refine lv_iconst (v := nI (1)) hx hb dX4_report_46 (by decide) ?_
              refine lv_goto (tgt := 51) hx hb dX4_report_47 (by decide) ?_
              refine lv_istore (lv' := [(5, .int (nI (1))), (0, .ref (am 0)), (1, .int (nI (wt))), (2, .int (nI (hbd))), (3, .int (nI (hrH na wai wt hbd i))), (4, .int (nI (i)))]) hx hb dX4_report_51 hl (by decide) rfl (fun ls hl => ?_)
              refine lv_aload_n hx hb dX4_report_53 rfl (lv_at hl 1 rfl) ?_
              refine lv_dup hx hb dX4_report_54 rfl ?_
              refine va_get (D := D) (ci := 3) (v := .int (nI (rep + hrR na wai wt hbd i))) (C := RX4) (T := TX4) (N := 14) hx hb hts iwX4_report_X4 hown hK hP 0 rfl rfl 10 (by decide) (hts (.fieldLink RX4 52 "RepairSenderModel" "reportMany" "I") (List.mem_of_getElem? (i := 4) rfl)) (fun _ h9 => h9) rfl dX4_report_55 ?_
              refine lv_iload hx hb dX4_report_58 (lv_at hl 0 rfl) ?_
              refine q_if_eq (u := ((1 : Nat) : Int)) (tgt := 67) hx hb dX4_report_60 (by decide) (nI_toInt (by omega)) (fun c_60 => absurd c_60 (by decide)) (fun _ => ?_)
              refine lv_iconst (v := nI (0)) hx hb dX4_report_63 (by decide) ?_
              refine lv_goto (tgt := 68) hx hb dX4_report_64 (by decide) ?_
              refine lv_iadd hx hb dX4_report_68 ?_
              refine q_top (show (nI (rep + hrR na wai wt hbd i) + nI (0)) = nI ((rep + hrR na wai wt hbd i) + 0) from nI_add _ _) ?_
              refine va_put (D := D) (ci := 3) (v := .int (nI ((rep + hrR na wai wt hbd i) + 0))) (ty := .int) (C := RX4) (T := TX4) (N := 14) hx hb hts iwX4_report_X4 tyX4 tyX4_ok nmX4 hown hK hP hD hS 0 rfl rfl 10 (by decide) (hts (.fieldLink RX4 52 "RepairSenderModel" "reportMany" "I") (List.mem_of_getElem? (i := 4) rfl)) (fun _ h9 => h9) rfl (by decide +kernel) rfl rfl (Nat.le_of_ble_eq_true rfl) dX4_report_69 (fun H locs hP hD hS => ?_)
              have hP : va_P D vwCl (wM cI cZ am (k) (pat) (dat) (sent) (rc) (los) (wai) (set) (bad) (gon) ((rep + hrR na wai wt hbd i) + 0) (sil + hrK na wai wt hbd i) (thr) (na)) H := hP
              have hD : va_D A (wM cI cZ am (k) (pat) (dat) (sent) (rc) (los) (wai) (set) (bad) (gon) ((rep + hrR na wai wt hbd i) + 0) (sil + hrK na wai wt hbd i) (thr) (na)) := hD
              refine lv_aload_n hx hb dX4_report_72 rfl (lv_at hl 1 rfl) ?_
              refine lv_dup hx hb dX4_report_73 rfl ?_
              refine va_get (D := D) (ci := 3) (v := .int (nI (sil + hrK na wai wt hbd i))) (C := RX4) (T := TX4) (N := 14) hx hb hts iwX4_report_X4 hown hK hP 0 rfl rfl 11 (by decide) (hts (.fieldLink RX4 55 "RepairSenderModel" "silentMany" "I") (List.mem_of_getElem? (i := 5) rfl)) (fun _ h9 => h9) rfl dX4_report_74 ?_
              refine lv_iload hx hb dX4_report_77 (lv_at hl 0 rfl) ?_
              refine q_if_eq (u := ((1 : Nat) : Int)) (tgt := 86) hx hb dX4_report_79 (by decide) (nI_toInt (by omega)) (fun c_79 => absurd c_79 (by decide)) (fun _ => ?_)
              refine lv_iconst (v := nI (1)) hx hb dX4_report_82 (by decide) ?_
              refine lv_goto (tgt := 87) hx hb dX4_report_83 (by decide) ?_
              refine lv_iadd hx hb dX4_report_87 ?_
              refine q_top (show (nI (sil + hrK na wai wt hbd i) + nI (1)) = nI ((sil + hrK na wai wt hbd i) + 1) from nI_add _ _) ?_
              refine va_put (D := D) (ci := 3) (v := .int (nI ((sil + hrK na wai wt hbd i) + 1))) (ty := .int) (C := RX4) (T := TX4) (N := 14) hx hb hts iwX4_report_X4 tyX4 tyX4_ok nmX4 hown hK hP hD hS 0 rfl rfl 11 (by decide) (hts (.fieldLink RX4 55 "RepairSenderModel" "silentMany" "I") (List.mem_of_getElem? (i := 5) rfl)) (fun _ h9 => h9) rfl (by decide +kernel) rfl rfl (Nat.le_of_ble_eq_true rfl) dX4_report_88 (fun H locs hP hD hS => ?_)
              have hP : va_P D vwCl (wM cI cZ am (k) (pat) (dat) (sent) (rc) (los) (wai) (set) (bad) (gon) ((rep + hrR na wai wt hbd i) + 0) ((sil + hrK na wai wt hbd i) + 1) (thr) (na)) H := hP
              have hD : va_D A (wM cI cZ am (k) (pat) (dat) (sent) (rc) (los) (wai) (set) (bad) (gon) ((rep + hrR na wai wt hbd i) + 0) ((sil + hrK na wai wt hbd i) + 1) (thr) (na)) := hD
              refine lv_aload_n hx hb dX4_report_91 rfl (lv_at hl 1 rfl) ?_
              refine va_get (D := D) (ci := 3) (v := .ref (am 7)) (C := RX4) (T := TX4) (N := 14) hx hb hts iwX4_report_X4 hown hK hP 0 rfl rfl 13 (by decide) (hts (.fieldLink RX4 29 "RepairSenderModel" "needsAhead" "[I") (List.mem_of_getElem? (i := 3) rfl)) (fun _ h9 => h9) rfl dX4_report_92 ?_
              refine lv_iload hx hb dX4_report_95 (lv_at hl 5 rfl) ?_
              refine q_iald (f := na) (j := i) hx hb hK hP 7 0 rfl rfl (by omega) (by decide) dX4_report_97 ?_
              refine lv_iload_n hx hb dX4_report_98 rfl (lv_at hl 4 rfl) ?_
              refine q_icmp_le (u := ((na i : Nat) : Int)) (v := ((hrH na wai wt hbd i : Nat) : Int)) (tgt := 112) hx hb dX4_report_99 (by decide) (nI_toInt (by omega)) (nI_toInt (by omega)) (fun c_99 => ?_) (fun c_99 => ?_)
              · have eH : hrH na wai wt hbd (i + 1) = hrH na wai wt hbd i := by omega
                refine lv_iload_n hx hb dX4_report_112 rfl (lv_at hl 4 rfl) ?_
                refine lv_istore_n (lv' := [(3, .int (nI (hrH na wai wt hbd i))), (5, .int (nI (1))), (0, .ref (am 0)), (1, .int (nI (wt))), (2, .int (nI (hbd))), (4, .int (nI (i)))]) hx hb dX4_report_113 rfl hl (by decide) rfl (fun ls hl => ?_)
                refine lv_iinc (v := nI (i + 1)) (lv' := [(4, .int (nI (i + 1))), (3, .int (nI (hrH na wai wt hbd i))), (5, .int (nI (1))), (0, .ref (am 0)), (1, .int (nI (wt))), (2, .int (nI (hbd)))]) hx hb dX4_report_114 hl (k := 5) rfl (show nI (i) + Int32.ofInt 1 = nI (i + 1) from nI_add (i) 1) (by decide) rfl (fun ls hl => ?_)
                refine lv_goto (tgt := 5) hx hb dX4_report_117 (by decide) ?_
                have eW : (wM cI cZ am (k) (pat) (dat) (sent) (rc) (los) (wai) (set) (bad) (gon) ((rep + hrR na wai wt hbd i) + 0) ((sil + hrK na wai wt hbd i) + 1) (thr) (na)) = (wM cI cZ am (k) (pat) (dat) (sent) (rc) (los) (wai) (set) (bad) (gon) (rep + hrR na wai wt hbd (i + 1)) (sil + hrK na wai wt hbd (i + 1)) (thr) (na)) := by rw [eR, eK]; try rfl
                rw [eW] at hP hD
                clear eW
                exact ih5_1 (i + 1) (by omega) (by omega) _ _ hP hD hS ls (lv_sub hl [3, 4, 5, 1, 0] (by rw [eH]; rfl))
              · have eH : hrH na wai wt hbd (i + 1) = na i := by omega
                refine lv_aload_n hx hb dX4_report_102 rfl (lv_at hl 1 rfl) ?_
                refine va_get (D := D) (ci := 3) (v := .ref (am 7)) (C := RX4) (T := TX4) (N := 14) hx hb hts iwX4_report_X4 hown hK hP 0 rfl rfl 13 (by decide) (hts (.fieldLink RX4 29 "RepairSenderModel" "needsAhead" "[I") (List.mem_of_getElem? (i := 3) rfl)) (fun _ h9 => h9) rfl dX4_report_103 ?_
                refine lv_iload hx hb dX4_report_106 (lv_at hl 5 rfl) ?_
                refine q_iald (f := na) (j := i) hx hb hK hP 7 0 rfl rfl (by omega) (by decide) dX4_report_108 ?_
                refine lv_goto (tgt := 113) hx hb dX4_report_109 (by decide) ?_
                refine lv_istore_n (lv' := [(3, .int (nI (na i))), (5, .int (nI (1))), (0, .ref (am 0)), (1, .int (nI (wt))), (2, .int (nI (hbd))), (4, .int (nI (i)))]) hx hb dX4_report_113 rfl hl (by decide) rfl (fun ls hl => ?_)
                refine lv_iinc (v := nI (i + 1)) (lv' := [(4, .int (nI (i + 1))), (3, .int (nI (na i))), (5, .int (nI (1))), (0, .ref (am 0)), (1, .int (nI (wt))), (2, .int (nI (hbd)))]) hx hb dX4_report_114 hl (k := 5) rfl (show nI (i) + Int32.ofInt 1 = nI (i + 1) from nI_add (i) 1) (by decide) rfl (fun ls hl => ?_)
                refine lv_goto (tgt := 5) hx hb dX4_report_117 (by decide) ?_
                have eW : (wM cI cZ am (k) (pat) (dat) (sent) (rc) (los) (wai) (set) (bad) (gon) ((rep + hrR na wai wt hbd i) + 0) ((sil + hrK na wai wt hbd i) + 1) (thr) (na)) = (wM cI cZ am (k) (pat) (dat) (sent) (rc) (los) (wai) (set) (bad) (gon) (rep + hrR na wai wt hbd (i + 1)) (sil + hrK na wai wt hbd (i + 1)) (thr) (na)) := by rw [eR, eK]; try rfl
                rw [eW] at hP hD
                clear eW
                exact ih5_1 (i + 1) (by omega) (by omega) _ _ hP hD hS ls (lv_sub hl [3, 4, 5, 1, 0] (by rw [eH]; rfl))
  have eW : (wM cI cZ am (k) (pat) (dat) (sent) (rc) (los) (wai) (set) (bad) (gon) (rep) (sil) (thr) (na)) = (wM cI cZ am (k) (pat) (dat) (sent) (rc) (los) (wai) (set) (bad) (gon) (rep + hrR na wai wt hbd 0) (sil + hrK na wai wt hbd 0) (thr) (na)) := by rfl
  rw [eW] at hP hD
  clear eW
  exact L5_1 _ (0) (Nat.lt_succ_self _) (by omega) _ _ hP hD hS ls (lv_sub hl [2, 3, 4, 1, 0] rfl)

theorem iwX4_round_X4 : ∀ w ∈ wsX40, w ∈ wsX4_round := by decide +kernel
set_option maxHeartbeats 4000000 in
set_option maxRecDepth 100000 in
theorem c_X4_round (l : Launch) (D : va_G) (cI cZ cQ cL : ClassId) (am : Nat → Nat) (k : Nat) (pat : Nat) (dat : Nat → B8) (sent : Nat) (rc : Nat) (los : Nat → Nat) (wai : Nat → Nat) (set : Nat → Nat) (bad : Nat → Nat) (gon : Nat → Nat) (rep : Nat) (sil : Nat) (thr : Nat) (na : Nat → Nat) (sz : Nat) (hrc : rc ≤ 6) (hlos : ∀ r, r < 6 → los r ≤ 2047) (hwai : ∀ r, r < 6 → wai r ≤ 20) (hset : ∀ r, r < 6 → set r < 65536) (hbad : ∀ r, r < 6 → bad r ≤ 20) (hgon : ∀ r, r < 6 → gon r ≤ 1) (hbk : k ≤ 8) (hse : sent ≤ 10000) (hlv : ∀ r, r < rc → gon r = 0 → bad r < pat) (hpa : pat ≤ 20) : Met l yX4_round wsX4_round ({ frames := 2, cells := 0, slots := 0, locals := 44 } : Room) (PW D (TY cI cZ cQ cL) (wM cI cZ am (k) (pat) (dat) (sent) (rc) (los) (wai) (set) (bad) (gon) (rep) (sil) (thr) (na)) sz [.ref (am 0)]) (QI D (va_A (wM cI cZ am (k) (pat) (dat) (sent) (rc) (los) (wai) (set) (bad) (gon) (rep) (sil) (thr) (na)) sz) (fun z9 (u9 : va_W) => (z9 = nI (rnH (ndf k set gon) wai rc 21) ∧ (sent ≤ 9992) ∧ u9 = (wM cI cZ am (k) (pat) (dat) (sent + rnH (ndf k set gon) wai rc 21) (rc) (los) (wai) (sndM rc sent los gon set (rnH (ndf k set gon) wai rc 21)) (bdB rc k (sndM rc sent los gon set (rnH (ndf k set gon) wai rc 21)) gon bad) (bdG rc k pat (sndM rc sent los gon set (rnH (ndf k set gon) wai rc 21)) gon bad) (rep + rnR (ndf k set gon) wai rc 21) (sil + rnK (ndf k set gon) wai rc 21) (0) ((lay rc k set gon na)))) ∨ (z9 = nI (0) ∧ (¬ sent ≤ 9992) ∧ u9 = (wM cI cZ am (k) (pat) (dat) (sent) (rc) (los) (wai) (set) (bad) (gon) (rep) (sil) (1) (na)))) (fun u9 => u9)) 0 0 (va_A (wM cI cZ am (k) (pat) (dat) (sent) (rc) (los) (wai) (set) (bad) (gon) (rep) (sil) (thr) (na)) sz) := by
  refine Met.ofW (cc := cX4_round) (maxL := 3) (ret := (some .int)) (by decide) rfl ?_
  intro p e s m args below meth c s₁ B hml hv
  obtain ⟨rfl, hsz, hP, hK, hD0, hN⟩ := hv
  have hx := B.exec
  have hb := B.bytes
  have hr := B.returns
  have hts := atoms_spec (ws := wsX4_round) B.pre
  have hown : s.vm.findClass RX4 = some m.cls := findClass_of_methodNamed B.named
  have hlocks := B.notSynchronized
  subst hsz
  have hD := hD0.self (sz := s.heap.size)
  generalize hAe : va_A (wM cI cZ am (k) (pat) (dat) (sent) (rc) (los) (wai) (set) (bad) (gon) (rep) (sil) (thr) (na)) s.heap.size = A at hD ⊢
  have hA : ∀ q : Nat, s.heap.size ≤ q → A q := fun q h => by rw [← hAe]; exact Or.inr h
  have hS : va_S A s.heap s.heap [] := va_S.rf
  have hl := lv_entry ([.ref (am 0)]) (n := 3) (Nat.le_of_ble_eq_true rfl)
  rw [lg_entry_eq]
  generalize (lg_sl ([.ref (am 0)]) ++ List.replicate (3 - (lg_sl ([.ref (am 0)])).length) Slot.unset).toArray = ls at hl ⊢
  have hl : lv_has ls 3 [(0, .ref (am 0))] := hl
  have hg8 : rnH (ndf k set gon) wai rc 21 ≤ 8 := rnH_le (fun r _ => Nat.le_trans (ndf_le k set gon r) hbk) 21
  have hnl : ∀ r, r < rc → (lay rc k set gon na) r = (ndf k set gon) r := fun r h => if_pos h
  have hn8 : ∀ r, r < rc → (lay rc k set gon na) r ≤ 8 := fun r h => by rw [hnl r h]; exact Nat.le_trans (ndf_le k set gon r) hbk
  refine lv_aload_n hx hb dX4_round_0 rfl (lv_at hl 0 rfl) ?_
  refine lv_aload_n hx hb dX4_round_1 rfl (lv_at hl 0 rfl) ?_
  refine va_get (D := D) (ci := 3) (v := .int (nI (sent))) (C := RX4) (T := TX4) (N := 14) hx hb hts iwX4_round_X4 hown hK hP 0 rfl rfl 3 (by decide) (hts (.fieldLink RX4 49 "RepairSenderModel" "sentMany" "I") (List.mem_of_getElem? (i := 1) rfl)) (fun _ h9 => h9) rfl dX4_round_2 ?_
  refine lv_sipush (v := nI (9992)) hx hb dX4_round_5 (by decide) ?_
  refine q_icmp_le (u := ((sent : Nat) : Int)) (v := ((9992 : Nat) : Int)) (tgt := 15) hx hb dX4_round_8 (by decide) (nI_toInt (by omega)) (nI_toInt (by omega)) (fun c_8 => ?_) (fun c_8 => ?_)
  · skip
    refine lv_iconst (v := nI (0)) hx hb dX4_round_15 (by decide) ?_
    refine va_put (D := D) (ci := 3) (v := .int (nI (0))) (ty := .int) (C := RX4) (T := TX4) (N := 14) hx hb hts iwX4_round_X4 tyX4 tyX4_ok nmX4 hown hK hP hD hS 0 rfl rfl 12 (by decide) (hts (.fieldLink RX4 39 "RepairSenderModel" "thrown" "I") (List.mem_of_getElem? (i := 2) rfl)) (fun _ h9 => h9) rfl (by decide +kernel) rfl rfl (Nat.le_of_ble_eq_true rfl) dX4_round_16 (fun H locs hP hD hS => ?_)
    have hP : va_P D vwCl (wM cI cZ am (k) (pat) (dat) (sent) (rc) (los) (wai) (set) (bad) (gon) (rep) (sil) (0) (na)) H := hP
    have hD : va_D A (wM cI cZ am (k) (pat) (dat) (sent) (rc) (los) (wai) (set) (bad) (gon) (rep) (sil) (0) (na)) := hD
    refine lv_aload_n hx hb dX4_round_19 rfl (lv_at hl 0 rfl) ?_
    refine va_get (D := D) (ci := 3) (v := .int (nI (0))) (C := RX4) (T := TX4) (N := 14) hx hb hts iwX4_round_X4 hown hK hP 0 rfl rfl 12 (by decide) (hts (.fieldLink RX4 39 "RepairSenderModel" "thrown" "I") (List.mem_of_getElem? (i := 2) rfl)) (fun _ h9 => h9) rfl dX4_round_20 ?_
    refine q_if_le (u := ((0 : Nat) : Int)) (tgt := 28) hx hb dX4_round_23 (by decide) (nI_toInt (by omega)) (fun _ => ?_) (fun c_23 => absurd c_23 (by decide))
    refine lv_aload_n hx hb dX4_round_28 rfl (lv_at hl 0 rfl) ?_
    have hPc : va_P D vwCl (wM cI cZ am (k) (pat) (dat) (sent) (rc) (los) (wai) (set) (bad) (gon) (rep) (sil) (0) (na)) H := hP
    refine q_cv (wc := (wM cI cZ am (k) (pat) (dat) (sent) (rc) (los) (wai) (set) (bad) (gon) (rep) (sil) (0) (na))) (wr := []) (w1 := fun _ => (wM cI cZ am (k) (pat) (dat) (sent) (rc) (los) (wai) (set) (bad) (gon) (rep) (sil) (0) (lay rc k set gon na))) (va_runV (As := []) (rest := []) ⟨hx, hb, hml, hown, hts⟩ (c_X4_layNeeds l D cI cZ cQ cL (am) (k) (pat) (dat) (sent) (rc) (los) (wai) (set) (bad) (gon) (rep) (sil) (0) (na) H.size (hrc) (hset) (hbk) (hgon)) (cwV 0 hts gX4_round_X4_layNeeds rfl rfl rfl ⟨rfl, hd_X4_layNeeds⟩ ⟨Nat.le_of_ble_eq_true rfl, Nat.le_of_ble_eq_true rfl⟩) (PW_v (q := (RX4, TX4, 14)) (ci := 3) (q0 := 0) hPc hK hD hN rfl rfl) rfl rfl hl.1 rfl (lv_room (Nat.le_of_ble_eq_true rfl)) dX4_round_29 ⟨Nat.le_of_ble_eq_true rfl, Nat.le_of_ble_eq_true rfl⟩) hP hD hS hA [0, 1, 2, 3, 4, 5, 6, 7] [] rfl rfl (by decide) (by decide) (fun u_29 H locs h_29 hP hD hS => ?_)
    have hP : va_P D vwCl (wM cI cZ am (k) (pat) (dat) (sent) (rc) (los) (wai) (set) (bad) (gon) (rep) (sil) (0) (lay rc k set gon na)) H := hP
    have hD : va_D A (wM cI cZ am (k) (pat) (dat) (sent) (rc) (los) (wai) (set) (bad) (gon) (rep) (sil) (0) (lay rc k set gon na)) := hD
    refine lv_iconst (v := nI (0)) hx hb dX4_round_32 (by decide) ?_
    refine lv_istore_n (lv' := [(1, .int (nI (0))), (0, .ref (am 0))]) hx hb dX4_round_33 rfl hl (by decide) rfl (fun ls hl => ?_)
    refine lv_iconst (v := nI (0)) hx hb dX4_round_34 (by decide) ?_
    refine lv_istore_n (lv' := [(2, .int (nI (0))), (1, .int (nI (0))), (0, .ref (am 0))]) hx hb dX4_round_35 rfl hl (by decide) rfl (fun ls hl => ?_)
    have L36_3 : ∀ (n36_3 : Nat) (w : Nat), 21 - w < n36_3 → (w ≤ 21) → ∀ (H : Heap) (locs : List Loc), va_P D vwCl (wM cI cZ am (k) (pat) (dat) (sent) (rc) (los) (wai) (set) (bad) (gon) (rep + rnR (ndf k set gon) wai rc w) (sil + rnK (ndf k set gon) wai rc w) (0) ((lay rc k set gon na))) H → va_D A (wM cI cZ am (k) (pat) (dat) (sent) (rc) (los) (wai) (set) (bad) (gon) (rep + rnR (ndf k set gon) wai rc w) (sil + rnK (ndf k set gon) wai rc w) (0) ((lay rc k set gon na))) → va_S A s.heap H locs → ∀ (ls : Array Slot), lv_has ls 3 [(0, .ref (am 0)), (1, .int (nI (rnH (ndf k set gon) wai rc w))), (2, .int (nI (w)))] → W p l e (headSpec wsX4_round ({ frames := 2, cells := 0, slots := 0, locals := 44 } : Room)).room s m ([.ref (am 0)] : List Value).toArray below meth c H locs 0 0 (MQ below (QI D A (fun z9 (u9 : va_W) => (z9 = nI (rnH (ndf k set gon) wai rc 21) ∧ (sent ≤ 9992) ∧ u9 = (wM cI cZ am (k) (pat) (dat) (sent + rnH (ndf k set gon) wai rc 21) (rc) (los) (wai) (sndM rc sent los gon set (rnH (ndf k set gon) wai rc 21)) (bdB rc k (sndM rc sent los gon set (rnH (ndf k set gon) wai rc 21)) gon bad) (bdG rc k pat (sndM rc sent los gon set (rnH (ndf k set gon) wai rc 21)) gon bad) (rep + rnR (ndf k set gon) wai rc 21) (sil + rnK (ndf k set gon) wai rc 21) (0) ((lay rc k set gon na)))) ∨ (z9 = nI (0) ∧ (¬ sent ≤ 9992) ∧ u9 = (wM cI cZ am (k) (pat) (dat) (sent) (rc) (los) (wai) (set) (bad) (gon) (rep) (sil) (1) (na)))) (fun u9 => u9)) ([.ref (am 0)] : List Value).toArray s 0 0 A) (F0 m 36 ls []) := by
      intro n36_3
      induction n36_3 with
      | zero =>
        intro w hn36_3
        exact absurd hn36_3 (Nat.not_lt_zero _)
      | succ n36_3 ih36_3 =>
        intro w hn36_3 hw H locs hP hD hS ls hl
        refine lv_iload_n hx hb dX4_round_36 rfl (lv_at hl 2 rfl) ?_
        refine lv_bipush (v := nI (20)) hx hb dX4_round_37 (by decide) ?_
        refine q_icmp_gt (u := ((w : Nat) : Int)) (v := ((20 : Nat) : Int)) (tgt := 55) hx hb dX4_round_39 (by decide) (nI_toInt (by omega)) (nI_toInt (by omega)) (fun c_39 => ?_) (fun c_39 => ?_)
        · obtain rfl : 21 = w := by omega
          refine lv_iconst (v := nI (0)) hx hb dX4_round_55 (by decide) ?_
          refine lv_istore_n (lv' := [(2, .int (nI (0))), (0, .ref (am 0)), (1, .int (nI (rnH (ndf k set gon) wai rc 21)))]) hx hb dX4_round_56 rfl hl (by decide) rfl (fun ls hl => ?_)
          have L57_5 : ∀ (n57_5 : Nat) (i : Nat), rnH (ndf k set gon) wai rc 21 - i < n57_5 → (i ≤ rnH (ndf k set gon) wai rc 21) → ∀ (H : Heap) (locs : List Loc), va_P D vwCl (wM cI cZ am (k) (pat) (dat) (sent + i) (rc) (los) (wai) (sndM rc sent los gon set i) (bad) (gon) (rep + rnR (ndf k set gon) wai rc 21) (sil + rnK (ndf k set gon) wai rc 21) (0) ((lay rc k set gon na))) H → va_D A (wM cI cZ am (k) (pat) (dat) (sent + i) (rc) (los) (wai) (sndM rc sent los gon set i) (bad) (gon) (rep + rnR (ndf k set gon) wai rc 21) (sil + rnK (ndf k set gon) wai rc 21) (0) ((lay rc k set gon na))) → va_S A s.heap H locs → ∀ (ls : Array Slot), lv_has ls 3 [(0, .ref (am 0)), (1, .int (nI (rnH (ndf k set gon) wai rc 21))), (2, .int (nI (i)))] → W p l e (headSpec wsX4_round ({ frames := 2, cells := 0, slots := 0, locals := 44 } : Room)).room s m ([.ref (am 0)] : List Value).toArray below meth c H locs 0 0 (MQ below (QI D A (fun z9 (u9 : va_W) => (z9 = nI (rnH (ndf k set gon) wai rc 21) ∧ (sent ≤ 9992) ∧ u9 = (wM cI cZ am (k) (pat) (dat) (sent + rnH (ndf k set gon) wai rc 21) (rc) (los) (wai) (sndM rc sent los gon set (rnH (ndf k set gon) wai rc 21)) (bdB rc k (sndM rc sent los gon set (rnH (ndf k set gon) wai rc 21)) gon bad) (bdG rc k pat (sndM rc sent los gon set (rnH (ndf k set gon) wai rc 21)) gon bad) (rep + rnR (ndf k set gon) wai rc 21) (sil + rnK (ndf k set gon) wai rc 21) (0) ((lay rc k set gon na)))) ∨ (z9 = nI (0) ∧ (¬ sent ≤ 9992) ∧ u9 = (wM cI cZ am (k) (pat) (dat) (sent) (rc) (los) (wai) (set) (bad) (gon) (rep) (sil) (1) (na)))) (fun u9 => u9)) ([.ref (am 0)] : List Value).toArray s 0 0 A) (F0 m 57 ls []) := by
            intro n57_5
            induction n57_5 with
            | zero =>
              intro i hn57_5
              exact absurd hn57_5 (Nat.not_lt_zero _)
            | succ n57_5 ih57_5 =>
              intro i hn57_5 hi H locs hP hD hS ls hl
              refine lv_iload_n hx hb dX4_round_57 rfl (lv_at hl 2 rfl) ?_
              refine lv_iload_n hx hb dX4_round_58 rfl (lv_at hl 1 rfl) ?_
              refine q_icmp_ge (u := ((i : Nat) : Int)) (v := ((rnH (ndf k set gon) wai rc 21 : Nat) : Int)) (tgt := 72) hx hb dX4_round_59 (by decide) (nI_toInt (by omega)) (nI_toInt (by omega)) (fun c_59 => ?_) (fun c_59 => ?_)
              · obtain rfl : rnH (ndf k set gon) wai rc 21 = i := by omega
                refine lv_iconst (v := nI (0)) hx hb dX4_round_72 (by decide) ?_
                refine lv_istore_n (lv' := [(2, .int (nI (0))), (0, .ref (am 0)), (1, .int (nI (rnH (ndf k set gon) wai rc 21)))]) hx hb dX4_round_73 rfl hl (by decide) rfl (fun ls hl => ?_)
                have L74_7 : ∀ (n74_7 : Nat) (i : Nat), rc - i < n74_7 → (i ≤ rc) → ∀ (H : Heap) (locs : List Loc), va_P D vwCl (wM cI cZ am (k) (pat) (dat) (sent + rnH (ndf k set gon) wai rc 21) (rc) (los) (wai) (sndM rc sent los gon set (rnH (ndf k set gon) wai rc 21)) (bdB i k (sndM rc sent los gon set (rnH (ndf k set gon) wai rc 21)) gon bad) (bdG i k pat (sndM rc sent los gon set (rnH (ndf k set gon) wai rc 21)) gon bad) (rep + rnR (ndf k set gon) wai rc 21) (sil + rnK (ndf k set gon) wai rc 21) (0) ((lay rc k set gon na))) H → va_D A (wM cI cZ am (k) (pat) (dat) (sent + rnH (ndf k set gon) wai rc 21) (rc) (los) (wai) (sndM rc sent los gon set (rnH (ndf k set gon) wai rc 21)) (bdB i k (sndM rc sent los gon set (rnH (ndf k set gon) wai rc 21)) gon bad) (bdG i k pat (sndM rc sent los gon set (rnH (ndf k set gon) wai rc 21)) gon bad) (rep + rnR (ndf k set gon) wai rc 21) (sil + rnK (ndf k set gon) wai rc 21) (0) ((lay rc k set gon na))) → va_S A s.heap H locs → ∀ (ls : Array Slot), lv_has ls 3 [(0, .ref (am 0)), (1, .int (nI (rnH (ndf k set gon) wai rc 21))), (2, .int (nI (i)))] → W p l e (headSpec wsX4_round ({ frames := 2, cells := 0, slots := 0, locals := 44 } : Room)).room s m ([.ref (am 0)] : List Value).toArray below meth c H locs 0 0 (MQ below (QI D A (fun z9 (u9 : va_W) => (z9 = nI (rnH (ndf k set gon) wai rc 21) ∧ (sent ≤ 9992) ∧ u9 = (wM cI cZ am (k) (pat) (dat) (sent + rnH (ndf k set gon) wai rc 21) (rc) (los) (wai) (sndM rc sent los gon set (rnH (ndf k set gon) wai rc 21)) (bdB rc k (sndM rc sent los gon set (rnH (ndf k set gon) wai rc 21)) gon bad) (bdG rc k pat (sndM rc sent los gon set (rnH (ndf k set gon) wai rc 21)) gon bad) (rep + rnR (ndf k set gon) wai rc 21) (sil + rnK (ndf k set gon) wai rc 21) (0) ((lay rc k set gon na)))) ∨ (z9 = nI (0) ∧ (¬ sent ≤ 9992) ∧ u9 = (wM cI cZ am (k) (pat) (dat) (sent) (rc) (los) (wai) (set) (bad) (gon) (rep) (sil) (1) (na)))) (fun u9 => u9)) ([.ref (am 0)] : List Value).toArray s 0 0 A) (F0 m 74 ls []) := by
                  intro n74_7
                  induction n74_7 with
                  | zero =>
                    intro i hn74_7
                    exact absurd hn74_7 (Nat.not_lt_zero _)
                  | succ n74_7 ih74_7 =>
                    intro i hn74_7 hi H locs hP hD hS ls hl
                    refine lv_iload_n hx hb dX4_round_74 rfl (lv_at hl 2 rfl) ?_
                    refine lv_aload_n hx hb dX4_round_75 rfl (lv_at hl 0 rfl) ?_
                    refine va_get (D := D) (ci := 3) (v := .int (nI (rc))) (C := RX4) (T := TX4) (N := 14) hx hb hts iwX4_round_X4 hown hK hP 0 rfl rfl 4 (by decide) (hts (.fieldLink RX4 42 "RepairSenderModel" "receiverMany" "I") (List.mem_of_getElem? (i := 3) rfl)) (fun _ h9 => h9) rfl dX4_round_76 ?_
                    refine q_icmp_ge (u := ((i : Nat) : Int)) (v := ((rc : Nat) : Int)) (tgt := 139) hx hb dX4_round_79 (by decide) (nI_toInt (by omega)) (nI_toInt (by omega)) (fun c_79 => ?_) (fun c_79 => ?_)
                    · obtain rfl : rc = i := by omega
                      refine lv_iload_n hx hb dX4_round_139 rfl (lv_at hl 1 rfl) ?_
                      exact W.iret (v := nI (rnH (ndf k set gon) wai rc 21)) hx hb hr (fun t ht hW => ⟨⟨_, (wM cI cZ am (k) (pat) (dat) (sent + rnH (ndf k set gon) wai rc 21) (rc) (los) (wai) (sndM rc sent los gon set (rnH (ndf k set gon) wai rc 21)) (bdB rc k (sndM rc sent los gon set (rnH (ndf k set gon) wai rc 21)) gon bad) (bdG rc k pat (sndM rc sent los gon set (rnH (ndf k set gon) wai rc 21)) gon bad) (rep + rnR (ndf k set gon) wai rc 21) (sil + rnK (ndf k set gon) wai rc 21) (0) ((lay rc k set gon na))), rfl, (by first | exact Or.inl ⟨rfl, by omega, rfl⟩ | exact Or.inr (⟨rfl, by omega, rfl⟩)), by rw [ht]; exact hP, hD⟩, hS.F ht⟩) hS.2.2 dX4_round_140
                    · skip
                      have hb6 := hbad i (by omega)
                      have hg6 := hgon i (by omega)
                      have hl6 := hlv i (by omega)
                      have hx6 := hnl i (by omega)
                      have hy6 := hn8 i (by omega)
                      have hm6 := sndM_pc rc sent los gon set i (rnH (ndf k set gon) wai rc 21)
                      have hz6 : (gon i = 0 → (ndf k set gon) i = k - pc (set i)) ∧ (¬ gon i = 0 → (ndf k set gon) i = 0) := ⟨fun z => if_pos z, fun z => if_neg z⟩
                      refine lv_aload_n hx hb dX4_round_82 rfl (lv_at hl 0 rfl) ?_
                      refine va_get (D := D) (ci := 3) (v := .ref (am 7)) (C := RX4) (T := TX4) (N := 14) hx hb hts iwX4_round_X4 hown hK hP 0 rfl rfl 13 (by decide) (hts (.fieldLink RX4 29 "RepairSenderModel" "needsAhead" "[I") (List.mem_of_getElem? (i := 4) rfl)) (fun _ h9 => h9) rfl dX4_round_83 ?_
                      refine lv_iload_n hx hb dX4_round_86 rfl (lv_at hl 2 rfl) ?_
                      refine q_iald (f := ((lay rc k set gon na))) (j := i) hx hb hK hP 7 0 rfl rfl (by omega) (by decide) dX4_round_87 ?_
                      refine q_if_le (u := ((((lay rc k set gon na)) i : Nat) : Int)) (tgt := 133) hx hb dX4_round_88 (by decide) (nI_toInt (by omega)) (fun c_88 => ?_) (fun c_88 => ?_)
                      · have hcn : ¬ (gon i = 0 ∧ 0 < k - pc (sndM rc sent los gon set (rnH (ndf k set gon) wai rc 21) i)) := fun z => by
                          have z1 := hz6.1 z.1
                          omega
                        refine lv_iinc (v := nI (i + 1)) (lv' := [(2, .int (nI (i + 1))), (0, .ref (am 0)), (1, .int (nI (rnH (ndf k set gon) wai rc 21)))]) hx hb dX4_round_133 hl (k := 2) rfl (show nI (i) + Int32.ofInt 1 = nI (i + 1) from nI_add (i) 1) (by decide) rfl (fun ls hl => ?_)
                        refine lv_goto (tgt := 74) hx hb dX4_round_136 (by decide) ?_
                        have eW : (wM cI cZ am (k) (pat) (dat) (sent + rnH (ndf k set gon) wai rc 21) (rc) (los) (wai) (sndM rc sent los gon set (rnH (ndf k set gon) wai rc 21)) (bdB i k (sndM rc sent los gon set (rnH (ndf k set gon) wai rc 21)) gon bad) (bdG i k pat (sndM rc sent los gon set (rnH (ndf k set gon) wai rc 21)) gon bad) (rep + rnR (ndf k set gon) wai rc 21) (sil + rnK (ndf k set gon) wai rc 21) (0) ((lay rc k set gon na))) = (wM cI cZ am (k) (pat) (dat) (sent + rnH (ndf k set gon) wai rc 21) (rc) (los) (wai) (sndM rc sent los gon set (rnH (ndf k set gon) wai rc 21)) (bdB (i + 1) k (sndM rc sent los gon set (rnH (ndf k set gon) wai rc 21)) gon bad) (bdG (i + 1) k pat (sndM rc sent los gon set (rnH (ndf k set gon) wai rc 21)) gon bad) (rep + rnR (ndf k set gon) wai rc 21) (sil + rnK (ndf k set gon) wai rc 21) (0) ((lay rc k set gon na))) := by first | rfl | rw [bdB_n hcn, bdG_n hcn]
                        rw [eW] at hP hD
                        clear eW
                        exact ih74_7 (i + 1) (by omega) (by omega) _ _ hP hD hS ls (lv_sub hl [1, 2, 0] rfl)
                      · skip
                        refine lv_aload_n hx hb dX4_round_91 rfl (lv_at hl 0 rfl) ?_
                        refine lv_iload_n hx hb dX4_round_92 rfl (lv_at hl 2 rfl) ?_
                        have hPc : va_P D vwCl (wM cI cZ am (k) (pat) (dat) ((sent + rnH (ndf k set gon) wai rc 21)) (rc) (los) (wai) ((sndM rc sent los gon set (rnH (ndf k set gon) wai rc 21))) ((bdB i k (sndM rc sent los gon set (rnH (ndf k set gon) wai rc 21)) gon bad)) ((bdG i k pat (sndM rc sent los gon set (rnH (ndf k set gon) wai rc 21)) gon bad)) ((rep + rnR (ndf k set gon) wai rc 21)) ((sil + rnK (ndf k set gon) wai rc 21)) (0) (((lay rc k set gon na)))) H := hP
                        refine q_csi (va_runV (As := [.int (nI (i))]) (rest := []) ⟨hx, hb, hml, hown, hts⟩ (c_X4_needOf l D cI cZ cQ cL (am) (k) (pat) (dat) (sent + rnH (ndf k set gon) wai rc 21) (rc) (los) (wai) (sndM rc sent los gon set (rnH (ndf k set gon) wai rc 21)) (bdB i k (sndM rc sent los gon set (rnH (ndf k set gon) wai rc 21)) gon bad) (bdG i k pat (sndM rc sent los gon set (rnH (ndf k set gon) wai rc 21)) gon bad) (rep + rnR (ndf k set gon) wai rc 21) (sil + rnK (ndf k set gon) wai rc 21) (0) ((lay rc k set gon na)) (i) H.size (by omega) (sndM_lt hset _) (hbk)) (cwV 1 hts gX4_round_X4_needOf rfl rfl rfl ⟨rfl, hd_X4_needOf⟩ ⟨Nat.le_of_ble_eq_true rfl, Nat.le_of_ble_eq_true rfl⟩) (PW_v (q := (RX4, TX4, 14)) (ci := 3) (q0 := 0) hPc hK hD hN rfl rfl) rfl rfl hl.1 rfl (lv_room (Nat.le_of_ble_eq_true rfl)) dX4_round_93 ⟨Nat.le_of_ble_eq_true rfl, Nat.le_of_ble_eq_true rfl⟩) (fun r_93 hr_93 => ?_)
                        obtain rfl : r_93 = nI (k - pc ((sndM rc sent los gon set (rnH (ndf k set gon) wai rc 21)) i)) := hr_93
                        refine q_if_le (u := ((k - pc ((sndM rc sent los gon set (rnH (ndf k set gon) wai rc 21)) i) : Nat) : Int)) (tgt := 133) hx hb dX4_round_96 (by decide) (nI_toInt (by omega)) (fun c_96 => ?_) (fun c_96 => ?_)
                        · have hcn : ¬ (gon i = 0 ∧ 0 < k - pc (sndM rc sent los gon set (rnH (ndf k set gon) wai rc 21) i)) := by omega
                          refine lv_iinc (v := nI (i + 1)) (lv' := [(2, .int (nI (i + 1))), (0, .ref (am 0)), (1, .int (nI (rnH (ndf k set gon) wai rc 21)))]) hx hb dX4_round_133 hl (k := 2) rfl (show nI (i) + Int32.ofInt 1 = nI (i + 1) from nI_add (i) 1) (by decide) rfl (fun ls hl => ?_)
                          refine lv_goto (tgt := 74) hx hb dX4_round_136 (by decide) ?_
                          have eW : (wM cI cZ am (k) (pat) (dat) (sent + rnH (ndf k set gon) wai rc 21) (rc) (los) (wai) (sndM rc sent los gon set (rnH (ndf k set gon) wai rc 21)) (bdB i k (sndM rc sent los gon set (rnH (ndf k set gon) wai rc 21)) gon bad) (bdG i k pat (sndM rc sent los gon set (rnH (ndf k set gon) wai rc 21)) gon bad) (rep + rnR (ndf k set gon) wai rc 21) (sil + rnK (ndf k set gon) wai rc 21) (0) ((lay rc k set gon na))) = (wM cI cZ am (k) (pat) (dat) (sent + rnH (ndf k set gon) wai rc 21) (rc) (los) (wai) (sndM rc sent los gon set (rnH (ndf k set gon) wai rc 21)) (bdB (i + 1) k (sndM rc sent los gon set (rnH (ndf k set gon) wai rc 21)) gon bad) (bdG (i + 1) k pat (sndM rc sent los gon set (rnH (ndf k set gon) wai rc 21)) gon bad) (rep + rnR (ndf k set gon) wai rc 21) (sil + rnK (ndf k set gon) wai rc 21) (0) ((lay rc k set gon na))) := by first | rfl | rw [bdB_n hcn, bdG_n hcn]
                          rw [eW] at hP hD
                          clear eW
                          exact ih74_7 (i + 1) (by omega) (by omega) _ _ hP hD hS ls (lv_sub hl [1, 2, 0] rfl)
                        · have h1 : gon i = 0 := by
                            rcases Nat.eq_zero_or_pos (gon i) with z | z
                            · exact z
                            · have z1 := hz6.2 (by omega)
                              omega
                          have h2 : 0 < k - pc (sndM rc sent los gon set (rnH (ndf k set gon) wai rc 21) i) := by omega
                          have hl6 := hl6 h1
                          refine lv_aload_n hx hb dX4_round_99 rfl (lv_at hl 0 rfl) ?_
                          refine va_get (D := D) (ci := 3) (v := .ref (am 5)) (C := RX4) (T := TX4) (N := 14) hx hb hts iwX4_round_X4 hown hK hP 0 rfl rfl 8 (by decide) (hts (.fieldLink RX4 22 "RepairSenderModel" "bads" "[I") (List.mem_of_getElem? (i := 5) rfl)) (fun _ h9 => h9) rfl dX4_round_100 ?_
                          refine lv_iload_n hx hb dX4_round_103 rfl (lv_at hl 2 rfl) ?_
                          refine lv_dup2_11 hx hb dX4_round_104 rfl rfl ?_
                          refine q_iald (f := (bdB i k (sndM rc sent los gon set (rnH (ndf k set gon) wai rc 21)) gon bad)) (j := i) hx hb hK hP 5 0 rfl rfl (by omega) (by decide) dX4_round_105 ?_
                          refine lv_iconst (v := nI (1)) hx hb dX4_round_106 (by decide) ?_
                          refine lv_iadd hx hb dX4_round_107 ?_
                          refine q_top (show (nI ((bdB i k (sndM rc sent los gon set (rnH (ndf k set gon) wai rc 21)) gon bad) i) + nI (1)) = nI ((bdB i k (sndM rc sent los gon set (rnH (ndf k set gon) wai rc 21)) gon bad) i + 1) from nI_add _ _) ?_
                          refine q_iast (f := (bdB i k (sndM rc sent los gon set (rnH (ndf k set gon) wai rc 21)) gon bad)) (j := i) (y := (bdB i k (sndM rc sent los gon set (rnH (ndf k set gon) wai rc 21)) gon bad) i + 1) hx hb hK hP hD hS 5 0 rfl rfl (by omega) (by decide) dX4_round_108 (fun H locs hP hD hS => ?_)
                          have hP : va_P D vwCl (wM cI cZ am (k) (pat) (dat) (sent + rnH (ndf k set gon) wai rc 21) (rc) (los) (wai) (sndM rc sent los gon set (rnH (ndf k set gon) wai rc 21)) (un (bdB i k (sndM rc sent los gon set (rnH (ndf k set gon) wai rc 21)) gon bad) i ((bdB i k (sndM rc sent los gon set (rnH (ndf k set gon) wai rc 21)) gon bad) i + 1)) (bdG i k pat (sndM rc sent los gon set (rnH (ndf k set gon) wai rc 21)) gon bad) (rep + rnR (ndf k set gon) wai rc 21) (sil + rnK (ndf k set gon) wai rc 21) (0) ((lay rc k set gon na))) H := hP
                          have hD : va_D A (wM cI cZ am (k) (pat) (dat) (sent + rnH (ndf k set gon) wai rc 21) (rc) (los) (wai) (sndM rc sent los gon set (rnH (ndf k set gon) wai rc 21)) (un (bdB i k (sndM rc sent los gon set (rnH (ndf k set gon) wai rc 21)) gon bad) i ((bdB i k (sndM rc sent los gon set (rnH (ndf k set gon) wai rc 21)) gon bad) i + 1)) (bdG i k pat (sndM rc sent los gon set (rnH (ndf k set gon) wai rc 21)) gon bad) (rep + rnR (ndf k set gon) wai rc 21) (sil + rnK (ndf k set gon) wai rc 21) (0) ((lay rc k set gon na))) := hD
                          have eW : (wM cI cZ am (k) (pat) (dat) (sent + rnH (ndf k set gon) wai rc 21) (rc) (los) (wai) (sndM rc sent los gon set (rnH (ndf k set gon) wai rc 21)) (un (bdB i k (sndM rc sent los gon set (rnH (ndf k set gon) wai rc 21)) gon bad) i ((bdB i k (sndM rc sent los gon set (rnH (ndf k set gon) wai rc 21)) gon bad) i + 1)) (bdG i k pat (sndM rc sent los gon set (rnH (ndf k set gon) wai rc 21)) gon bad) (rep + rnR (ndf k set gon) wai rc 21) (sil + rnK (ndf k set gon) wai rc 21) (0) ((lay rc k set gon na))) = (wM cI cZ am (k) (pat) (dat) (sent + rnH (ndf k set gon) wai rc 21) (rc) (los) (wai) (sndM rc sent los gon set (rnH (ndf k set gon) wai rc 21)) (bdB (i + 1) k (sndM rc sent los gon set (rnH (ndf k set gon) wai rc 21)) gon bad) (bdG i k pat (sndM rc sent los gon set (rnH (ndf k set gon) wai rc 21)) gon bad) (rep + rnR (ndf k set gon) wai rc 21) (sil + rnK (ndf k set gon) wai rc 21) (0) ((lay rc k set gon na))) := by rw [bdB_at, bdB_y h1 h2]
                          rw [eW] at hP hD
                          clear eW
                          refine lv_aload_n hx hb dX4_round_109 rfl (lv_at hl 0 rfl) ?_
                          refine va_get (D := D) (ci := 3) (v := .ref (am 6)) (C := RX4) (T := TX4) (N := 14) hx hb hts iwX4_round_X4 hown hK hP 0 rfl rfl 9 (by decide) (hts (.fieldLink RX4 25 "RepairSenderModel" "isGone" "[Z") (List.mem_of_getElem? (i := 6) rfl)) (fun _ h9 => h9) rfl dX4_round_110 ?_
                          refine lv_iload_n hx hb dX4_round_113 rfl (lv_at hl 2 rfl) ?_
                          refine lv_aload_n hx hb dX4_round_114 rfl (lv_at hl 0 rfl) ?_
                          have eB : bdB (i + 1) k (sndM rc sent los gon set (rnH (ndf k set gon) wai rc 21)) gon bad i = bad i + 1 := if_pos ⟨by omega, h1, h2⟩
                          refine va_get (D := D) (ci := 3) (v := .ref (am 5)) (C := RX4) (T := TX4) (N := 14) hx hb hts iwX4_round_X4 hown hK hP 0 rfl rfl 8 (by decide) (hts (.fieldLink RX4 22 "RepairSenderModel" "bads" "[I") (List.mem_of_getElem? (i := 5) rfl)) (fun _ h9 => h9) rfl dX4_round_115 ?_
                          refine lv_iload_n hx hb dX4_round_118 rfl (lv_at hl 2 rfl) ?_
                          refine q_iald (f := (bdB (i + 1) k (sndM rc sent los gon set (rnH (ndf k set gon) wai rc 21)) gon bad)) (j := i) hx hb hK hP 5 0 rfl rfl (by omega) (by decide) dX4_round_119 ?_
                          refine lv_aload_n hx hb dX4_round_120 rfl (lv_at hl 0 rfl) ?_
                          refine va_get (D := D) (ci := 3) (v := .int (nI (pat))) (C := RX4) (T := TX4) (N := 14) hx hb hts iwX4_round_X4 hown hK hP 0 rfl rfl 1 (by decide) (hts (.fieldLink RX4 36 "RepairSenderModel" "patience" "I") (List.mem_of_getElem? (i := 7) rfl)) (fun _ h9 => h9) rfl dX4_round_121 ?_
                          refine q_icmp_ne (u := (((bdB (i + 1) k (sndM rc sent los gon set (rnH (ndf k set gon) wai rc 21)) gon bad) i : Nat) : Int)) (v := ((pat : Nat) : Int)) (tgt := 131) hx hb dX4_round_124 (by decide) (nI_toInt (by omega)) (nI_toInt (by omega)) (fun c_124 => ?_) (fun c_124 => ?_)
                          · have eG : un (bdG i k pat (sndM rc sent los gon set (rnH (ndf k set gon) wai rc 21)) gon bad) i 0 = bdG (i + 1) k pat (sndM rc sent los gon set (rnH (ndf k set gon) wai rc 21)) gon bad := by rw [← bdG_y h1 h2, if_neg (by omega)]
                            refine lv_iconst (v := nI (0)) hx hb dX4_round_131 (by decide) ?_
                            refine q_zast (f := (bdG i k pat (sndM rc sent los gon set (rnH (ndf k set gon) wai rc 21)) gon bad)) (j := i) (y := 0) hx hb hK hP hD hS 6 1 rfl rfl (by omega) (by decide) (by omega) dX4_round_132 (fun H locs hP hD hS => ?_)
                            have hP : va_P D vwCl (wM cI cZ am (k) (pat) (dat) (sent + rnH (ndf k set gon) wai rc 21) (rc) (los) (wai) (sndM rc sent los gon set (rnH (ndf k set gon) wai rc 21)) (bdB (i + 1) k (sndM rc sent los gon set (rnH (ndf k set gon) wai rc 21)) gon bad) (un (bdG i k pat (sndM rc sent los gon set (rnH (ndf k set gon) wai rc 21)) gon bad) i 0) (rep + rnR (ndf k set gon) wai rc 21) (sil + rnK (ndf k set gon) wai rc 21) (0) ((lay rc k set gon na))) H := hP
                            have hD : va_D A (wM cI cZ am (k) (pat) (dat) (sent + rnH (ndf k set gon) wai rc 21) (rc) (los) (wai) (sndM rc sent los gon set (rnH (ndf k set gon) wai rc 21)) (bdB (i + 1) k (sndM rc sent los gon set (rnH (ndf k set gon) wai rc 21)) gon bad) (un (bdG i k pat (sndM rc sent los gon set (rnH (ndf k set gon) wai rc 21)) gon bad) i 0) (rep + rnR (ndf k set gon) wai rc 21) (sil + rnK (ndf k set gon) wai rc 21) (0) ((lay rc k set gon na))) := hD
                            have eW : (wM cI cZ am (k) (pat) (dat) (sent + rnH (ndf k set gon) wai rc 21) (rc) (los) (wai) (sndM rc sent los gon set (rnH (ndf k set gon) wai rc 21)) (bdB (i + 1) k (sndM rc sent los gon set (rnH (ndf k set gon) wai rc 21)) gon bad) (un (bdG i k pat (sndM rc sent los gon set (rnH (ndf k set gon) wai rc 21)) gon bad) i 0) (rep + rnR (ndf k set gon) wai rc 21) (sil + rnK (ndf k set gon) wai rc 21) (0) ((lay rc k set gon na))) = (wM cI cZ am (k) (pat) (dat) (sent + rnH (ndf k set gon) wai rc 21) (rc) (los) (wai) (sndM rc sent los gon set (rnH (ndf k set gon) wai rc 21)) (bdB (i + 1) k (sndM rc sent los gon set (rnH (ndf k set gon) wai rc 21)) gon bad) (bdG (i + 1) k pat (sndM rc sent los gon set (rnH (ndf k set gon) wai rc 21)) gon bad) (rep + rnR (ndf k set gon) wai rc 21) (sil + rnK (ndf k set gon) wai rc 21) (0) ((lay rc k set gon na))) := by rw [eG]
                            rw [eW] at hP hD
                            clear eW
                            refine lv_iinc (v := nI (i + 1)) (lv' := [(2, .int (nI (i + 1))), (0, .ref (am 0)), (1, .int (nI (rnH (ndf k set gon) wai rc 21)))]) hx hb dX4_round_133 hl (k := 2) rfl (show nI (i) + Int32.ofInt 1 = nI (i + 1) from nI_add (i) 1) (by decide) rfl (fun ls hl => ?_)
                            refine lv_goto (tgt := 74) hx hb dX4_round_136 (by decide) ?_
                            have eW : (wM cI cZ am (k) (pat) (dat) (sent + rnH (ndf k set gon) wai rc 21) (rc) (los) (wai) (sndM rc sent los gon set (rnH (ndf k set gon) wai rc 21)) (bdB (i + 1) k (sndM rc sent los gon set (rnH (ndf k set gon) wai rc 21)) gon bad) (bdG (i + 1) k pat (sndM rc sent los gon set (rnH (ndf k set gon) wai rc 21)) gon bad) (rep + rnR (ndf k set gon) wai rc 21) (sil + rnK (ndf k set gon) wai rc 21) (0) ((lay rc k set gon na))) = (wM cI cZ am (k) (pat) (dat) (sent + rnH (ndf k set gon) wai rc 21) (rc) (los) (wai) (sndM rc sent los gon set (rnH (ndf k set gon) wai rc 21)) (bdB (i + 1) k (sndM rc sent los gon set (rnH (ndf k set gon) wai rc 21)) gon bad) (bdG (i + 1) k pat (sndM rc sent los gon set (rnH (ndf k set gon) wai rc 21)) gon bad) (rep + rnR (ndf k set gon) wai rc 21) (sil + rnK (ndf k set gon) wai rc 21) (0) ((lay rc k set gon na))) := by first | rfl | rw [bdB_n hcn, bdG_n hcn]
                            rw [eW] at hP hD
                            clear eW
                            exact ih74_7 (i + 1) (by omega) (by omega) _ _ hP hD hS ls (lv_sub hl [1, 2, 0] rfl)
                          · have eG : un (bdG i k pat (sndM rc sent los gon set (rnH (ndf k set gon) wai rc 21)) gon bad) i 1 = bdG (i + 1) k pat (sndM rc sent los gon set (rnH (ndf k set gon) wai rc 21)) gon bad := by rw [← bdG_y h1 h2, if_pos (by omega)]
                            refine lv_iconst (v := nI (1)) hx hb dX4_round_127 (by decide) ?_
                            refine lv_goto (tgt := 132) hx hb dX4_round_128 (by decide) ?_
                            refine q_zast (f := (bdG i k pat (sndM rc sent los gon set (rnH (ndf k set gon) wai rc 21)) gon bad)) (j := i) (y := 1) hx hb hK hP hD hS 6 1 rfl rfl (by omega) (by decide) (by omega) dX4_round_132 (fun H locs hP hD hS => ?_)
                            have hP : va_P D vwCl (wM cI cZ am (k) (pat) (dat) (sent + rnH (ndf k set gon) wai rc 21) (rc) (los) (wai) (sndM rc sent los gon set (rnH (ndf k set gon) wai rc 21)) (bdB (i + 1) k (sndM rc sent los gon set (rnH (ndf k set gon) wai rc 21)) gon bad) (un (bdG i k pat (sndM rc sent los gon set (rnH (ndf k set gon) wai rc 21)) gon bad) i 1) (rep + rnR (ndf k set gon) wai rc 21) (sil + rnK (ndf k set gon) wai rc 21) (0) ((lay rc k set gon na))) H := hP
                            have hD : va_D A (wM cI cZ am (k) (pat) (dat) (sent + rnH (ndf k set gon) wai rc 21) (rc) (los) (wai) (sndM rc sent los gon set (rnH (ndf k set gon) wai rc 21)) (bdB (i + 1) k (sndM rc sent los gon set (rnH (ndf k set gon) wai rc 21)) gon bad) (un (bdG i k pat (sndM rc sent los gon set (rnH (ndf k set gon) wai rc 21)) gon bad) i 1) (rep + rnR (ndf k set gon) wai rc 21) (sil + rnK (ndf k set gon) wai rc 21) (0) ((lay rc k set gon na))) := hD
                            have eW : (wM cI cZ am (k) (pat) (dat) (sent + rnH (ndf k set gon) wai rc 21) (rc) (los) (wai) (sndM rc sent los gon set (rnH (ndf k set gon) wai rc 21)) (bdB (i + 1) k (sndM rc sent los gon set (rnH (ndf k set gon) wai rc 21)) gon bad) (un (bdG i k pat (sndM rc sent los gon set (rnH (ndf k set gon) wai rc 21)) gon bad) i 1) (rep + rnR (ndf k set gon) wai rc 21) (sil + rnK (ndf k set gon) wai rc 21) (0) ((lay rc k set gon na))) = (wM cI cZ am (k) (pat) (dat) (sent + rnH (ndf k set gon) wai rc 21) (rc) (los) (wai) (sndM rc sent los gon set (rnH (ndf k set gon) wai rc 21)) (bdB (i + 1) k (sndM rc sent los gon set (rnH (ndf k set gon) wai rc 21)) gon bad) (bdG (i + 1) k pat (sndM rc sent los gon set (rnH (ndf k set gon) wai rc 21)) gon bad) (rep + rnR (ndf k set gon) wai rc 21) (sil + rnK (ndf k set gon) wai rc 21) (0) ((lay rc k set gon na))) := by rw [eG]
                            rw [eW] at hP hD
                            clear eW
                            refine lv_iinc (v := nI (i + 1)) (lv' := [(2, .int (nI (i + 1))), (0, .ref (am 0)), (1, .int (nI (rnH (ndf k set gon) wai rc 21)))]) hx hb dX4_round_133 hl (k := 2) rfl (show nI (i) + Int32.ofInt 1 = nI (i + 1) from nI_add (i) 1) (by decide) rfl (fun ls hl => ?_)
                            refine lv_goto (tgt := 74) hx hb dX4_round_136 (by decide) ?_
                            have eW : (wM cI cZ am (k) (pat) (dat) (sent + rnH (ndf k set gon) wai rc 21) (rc) (los) (wai) (sndM rc sent los gon set (rnH (ndf k set gon) wai rc 21)) (bdB (i + 1) k (sndM rc sent los gon set (rnH (ndf k set gon) wai rc 21)) gon bad) (bdG (i + 1) k pat (sndM rc sent los gon set (rnH (ndf k set gon) wai rc 21)) gon bad) (rep + rnR (ndf k set gon) wai rc 21) (sil + rnK (ndf k set gon) wai rc 21) (0) ((lay rc k set gon na))) = (wM cI cZ am (k) (pat) (dat) (sent + rnH (ndf k set gon) wai rc 21) (rc) (los) (wai) (sndM rc sent los gon set (rnH (ndf k set gon) wai rc 21)) (bdB (i + 1) k (sndM rc sent los gon set (rnH (ndf k set gon) wai rc 21)) gon bad) (bdG (i + 1) k pat (sndM rc sent los gon set (rnH (ndf k set gon) wai rc 21)) gon bad) (rep + rnR (ndf k set gon) wai rc 21) (sil + rnK (ndf k set gon) wai rc 21) (0) ((lay rc k set gon na))) := by first | rfl | rw [bdB_n hcn, bdG_n hcn]
                            rw [eW] at hP hD
                            clear eW
                            exact ih74_7 (i + 1) (by omega) (by omega) _ _ hP hD hS ls (lv_sub hl [1, 2, 0] rfl)
                have eW : (wM cI cZ am (k) (pat) (dat) (sent + (rnH (ndf k set gon) wai rc 21)) (rc) (los) (wai) (sndM rc sent los gon set (rnH (ndf k set gon) wai rc 21)) (bad) (gon) (rep + rnR (ndf k set gon) wai rc 21) (sil + rnK (ndf k set gon) wai rc 21) (0) ((lay rc k set gon na))) = (wM cI cZ am (k) (pat) (dat) (sent + rnH (ndf k set gon) wai rc 21) (rc) (los) (wai) (sndM rc sent los gon set (rnH (ndf k set gon) wai rc 21)) (bdB 0 k (sndM rc sent los gon set (rnH (ndf k set gon) wai rc 21)) gon bad) (bdG 0 k pat (sndM rc sent los gon set (rnH (ndf k set gon) wai rc 21)) gon bad) (rep + rnR (ndf k set gon) wai rc 21) (sil + rnK (ndf k set gon) wai rc 21) (0) ((lay rc k set gon na))) := by rw [bdB_0, bdG_0]
                rw [eW] at hP hD
                clear eW
                exact L74_7 _ (0) (Nat.lt_succ_self _) (by omega) _ _ hP hD hS ls (lv_sub hl [1, 2, 0] rfl)
              · skip
                refine lv_aload_n hx hb dX4_round_62 rfl (lv_at hl 0 rfl) ?_
                have hPc : va_P D vwCl (wM cI cZ am (k) (pat) (dat) ((sent + i)) (rc) (los) (wai) ((sndM rc sent los gon set i)) (bad) (gon) ((rep + rnR (ndf k set gon) wai rc 21)) ((sil + rnK (ndf k set gon) wai rc 21)) (0) (((lay rc k set gon na)))) H := hP
                refine q_cv (wc := (wM cI cZ am (k) (pat) (dat) ((sent + i)) (rc) (los) (wai) ((sndM rc sent los gon set i)) (bad) (gon) ((rep + rnR (ndf k set gon) wai rc 21)) ((sil + rnK (ndf k set gon) wai rc 21)) (0) (((lay rc k set gon na))))) (wr := []) (w1 := fun _ => (wM cI cZ am (k) (pat) (dat) ((sent + i) + 1) (rc) (los) (wai) (snd1 rc (sent + i) los gon (sndM rc sent los gon set i)) (bad) (gon) ((rep + rnR (ndf k set gon) wai rc 21)) ((sil + rnK (ndf k set gon) wai rc 21)) (0) (((lay rc k set gon na))))) (va_runV (As := []) (rest := []) ⟨hx, hb, hml, hown, hts⟩ (c_X4_sendOne l D cI cZ cQ cL (am) (k) (pat) (dat) (sent + i) (rc) (los) (wai) (sndM rc sent los gon set i) (bad) (gon) (rep + rnR (ndf k set gon) wai rc 21) (sil + rnK (ndf k set gon) wai rc 21) (0) ((lay rc k set gon na)) H.size (hrc) (by omega) (hlos) (hgon) (sndM_lt hset i)) (cwV 0 hts gX4_round_X4_sendOne rfl rfl rfl ⟨rfl, hd_X4_sendOne⟩ ⟨Nat.le_of_ble_eq_true rfl, Nat.le_of_ble_eq_true rfl⟩) (PW_v (q := (RX4, TX4, 14)) (ci := 3) (q0 := 0) hPc hK hD hN rfl rfl) rfl rfl hl.1 rfl (lv_room (Nat.le_of_ble_eq_true rfl)) dX4_round_63 ⟨Nat.le_of_ble_eq_true rfl, Nat.le_of_ble_eq_true rfl⟩) hP hD hS hA [0, 1, 2, 3, 4, 5, 6, 7] [] rfl rfl (by decide) (by decide) (fun u_63 H locs h_63 hP hD hS => ?_)
                have hP : va_P D vwCl (wM cI cZ am (k) (pat) (dat) ((sent + i) + 1) (rc) (los) (wai) (snd1 rc (sent + i) los gon (sndM rc sent los gon set i)) (bad) (gon) ((rep + rnR (ndf k set gon) wai rc 21)) ((sil + rnK (ndf k set gon) wai rc 21)) (0) (((lay rc k set gon na)))) H := hP
                have hD : va_D A (wM cI cZ am (k) (pat) (dat) ((sent + i) + 1) (rc) (los) (wai) (snd1 rc (sent + i) los gon (sndM rc sent los gon set i)) (bad) (gon) ((rep + rnR (ndf k set gon) wai rc 21)) ((sil + rnK (ndf k set gon) wai rc 21)) (0) (((lay rc k set gon na)))) := hD
                refine lv_iinc (v := nI (i + 1)) (lv' := [(2, .int (nI (i + 1))), (0, .ref (am 0)), (1, .int (nI (rnH (ndf k set gon) wai rc 21)))]) hx hb dX4_round_66 hl (k := 2) rfl (show nI (i) + Int32.ofInt 1 = nI (i + 1) from nI_add (i) 1) (by decide) rfl (fun ls hl => ?_)
                refine lv_goto (tgt := 57) hx hb dX4_round_69 (by decide) ?_
                have eW : (wM cI cZ am (k) (pat) (dat) ((sent + i) + 1) (rc) (los) (wai) (snd1 rc (sent + i) los gon (sndM rc sent los gon set i)) (bad) (gon) ((rep + rnR (ndf k set gon) wai rc 21)) ((sil + rnK (ndf k set gon) wai rc 21)) (0) (((lay rc k set gon na)))) = (wM cI cZ am (k) (pat) (dat) (sent + (i + 1)) (rc) (los) (wai) (sndM rc sent los gon set (i + 1)) (bad) (gon) (rep + rnR (ndf k set gon) wai rc 21) (sil + rnK (ndf k set gon) wai rc 21) (0) ((lay rc k set gon na))) := by rfl
                rw [eW] at hP hD
                clear eW
                exact ih57_5 (i + 1) (by omega) (by omega) _ _ hP hD hS ls (lv_sub hl [1, 2, 0] rfl)
          have eW : (wM cI cZ am (k) (pat) (dat) (sent) (rc) (los) (wai) (set) (bad) (gon) (rep + rnR (ndf k set gon) wai rc 21) (sil + rnK (ndf k set gon) wai rc 21) (0) ((lay rc k set gon na))) = (wM cI cZ am (k) (pat) (dat) (sent + 0) (rc) (los) (wai) (sndM rc sent los gon set 0) (bad) (gon) (rep + rnR (ndf k set gon) wai rc 21) (sil + rnK (ndf k set gon) wai rc 21) (0) ((lay rc k set gon na))) := by rfl
          rw [eW] at hP hD
          clear eW
          exact L57_5 _ (0) (Nat.lt_succ_self _) (by omega) _ _ hP hD hS ls (lv_sub hl [1, 2, 0] rfl)
        · skip
          refine lv_aload_n hx hb dX4_round_42 rfl (lv_at hl 0 rfl) ?_
          refine lv_iload_n hx hb dX4_round_43 rfl (lv_at hl 2 rfl) ?_
          refine lv_iload_n hx hb dX4_round_44 rfl (lv_at hl 1 rfl) ?_
          have hPc : va_P D vwCl (wM cI cZ am (k) (pat) (dat) (sent) (rc) (los) (wai) (set) (bad) (gon) ((rep + rnR (ndf k set gon) wai rc w)) ((sil + rnK (ndf k set gon) wai rc w)) (0) (((lay rc k set gon na)))) H := hP
          refine q_ci (wc := (wM cI cZ am (k) (pat) (dat) (sent) (rc) (los) (wai) (set) (bad) (gon) ((rep + rnR (ndf k set gon) wai rc w)) ((sil + rnK (ndf k set gon) wai rc w)) (0) (((lay rc k set gon na))))) (wr := []) (w1 := fun _ => (wM cI cZ am (k) (pat) (dat) (sent) (rc) (los) (wai) (set) (bad) (gon) ((rep + rnR (ndf k set gon) wai rc w) + hrR ((lay rc k set gon na)) wai w (rnH (ndf k set gon) wai rc w) rc) ((sil + rnK (ndf k set gon) wai rc w) + hrK ((lay rc k set gon na)) wai w (rnH (ndf k set gon) wai rc w) rc) (0) (((lay rc k set gon na))))) (va_runV (As := [.int (nI (w)), .int (nI (rnH (ndf k set gon) wai rc w))]) (rest := []) ⟨hx, hb, hml, hown, hts⟩ (c_X4_report l D cI cZ cQ cL (am) (k) (pat) (dat) (sent) (rc) (los) (wai) (set) (bad) (gon) (rep + rnR (ndf k set gon) wai rc w) (sil + rnK (ndf k set gon) wai rc w) (0) ((lay rc k set gon na)) (w) (rnH (ndf k set gon) wai rc w) H.size (hrc) (hwai) (hn8) (by omega) (rnH_le (fun r _ => Nat.le_trans (ndf_le k set gon r) hbk) w)) (cwV 2 hts gX4_round_X4_report rfl rfl rfl ⟨rfl, hd_X4_report⟩ ⟨Nat.le_of_ble_eq_true rfl, Nat.le_of_ble_eq_true rfl⟩) (PW_v (q := (RX4, TX4, 14)) (ci := 3) (q0 := 0) hPc hK hD hN rfl rfl) rfl rfl hl.1 rfl (lv_room (Nat.le_of_ble_eq_true rfl)) dX4_round_45 ⟨Nat.le_of_ble_eq_true rfl, Nat.le_of_ble_eq_true rfl⟩) hP hD hS hA [0, 1, 2, 3, 4, 5, 6, 7] [] rfl rfl (by decide) (by decide) (fun r_45 u_45 H locs h_45 hP hD hS => ?_)
          have hP : va_P D vwCl (wM cI cZ am (k) (pat) (dat) (sent) (rc) (los) (wai) (set) (bad) (gon) ((rep + rnR (ndf k set gon) wai rc w) + hrR ((lay rc k set gon na)) wai w (rnH (ndf k set gon) wai rc w) rc) ((sil + rnK (ndf k set gon) wai rc w) + hrK ((lay rc k set gon na)) wai w (rnH (ndf k set gon) wai rc w) rc) (0) (((lay rc k set gon na)))) H := hP
          have hD : va_D A (wM cI cZ am (k) (pat) (dat) (sent) (rc) (los) (wai) (set) (bad) (gon) ((rep + rnR (ndf k set gon) wai rc w) + hrR ((lay rc k set gon na)) wai w (rnH (ndf k set gon) wai rc w) rc) ((sil + rnK (ndf k set gon) wai rc w) + hrK ((lay rc k set gon na)) wai w (rnH (ndf k set gon) wai rc w) rc) (0) (((lay rc k set gon na)))) := hD
          obtain rfl : r_45 = nI (hrH ((lay rc k set gon na)) wai w (rnH (ndf k set gon) wai rc w) rc) := h_45
          refine lv_istore_n (lv' := [(1, .int (nI (hrH ((lay rc k set gon na)) wai w (rnH (ndf k set gon) wai rc w) rc))), (0, .ref (am 0)), (2, .int (nI (w)))]) hx hb dX4_round_48 rfl hl (by decide) rfl (fun ls hl => ?_)
          refine lv_iinc (v := nI (w + 1)) (lv' := [(2, .int (nI (w + 1))), (1, .int (nI (hrH ((lay rc k set gon na)) wai w (rnH (ndf k set gon) wai rc w) rc))), (0, .ref (am 0))]) hx hb dX4_round_49 hl (k := 2) rfl (show nI (w) + Int32.ofInt 1 = nI (w + 1) from nI_add (w) 1) (by decide) rfl (fun ls hl => ?_)
          refine lv_goto (tgt := 36) hx hb dX4_round_52 (by decide) ?_
          have eW : (wM cI cZ am (k) (pat) (dat) (sent) (rc) (los) (wai) (set) (bad) (gon) ((rep + rnR (ndf k set gon) wai rc w) + hrR ((lay rc k set gon na)) wai w (rnH (ndf k set gon) wai rc w) rc) ((sil + rnK (ndf k set gon) wai rc w) + hrK ((lay rc k set gon na)) wai w (rnH (ndf k set gon) wai rc w) rc) (0) (((lay rc k set gon na)))) = (wM cI cZ am (k) (pat) (dat) (sent) (rc) (los) (wai) (set) (bad) (gon) (rep + rnR (ndf k set gon) wai rc (w + 1)) (sil + rnK (ndf k set gon) wai rc (w + 1)) (0) ((lay rc k set gon na))) := by simp only [rnR, rnK, Nat.add_assoc]; rw [hrR_c rc hnl, hrK_c rc hnl]
          rw [eW] at hP hD
          clear eW
          exact ih36_3 (w + 1) (by omega) (by omega) _ _ hP hD hS ls (lv_sub hl [2, 1, 0] (by show _ = [(0, Value.ref (am 0)), (1, Value.int (nI (hrH (ndf k set gon) wai w (rnH (ndf k set gon) wai rc w) rc))), (2, Value.int (nI (w + 1)))]; rw [← hrH_c rc hnl]; rfl))
    have eW : (wM cI cZ am (k) (pat) (dat) (sent) (rc) (los) (wai) (set) (bad) (gon) (rep) (sil) (0) (lay rc k set gon na)) = (wM cI cZ am (k) (pat) (dat) (sent) (rc) (los) (wai) (set) (bad) (gon) (rep + rnR (ndf k set gon) wai rc 0) (sil + rnK (ndf k set gon) wai rc 0) (0) ((lay rc k set gon na))) := by rfl
    rw [eW] at hP hD
    clear eW
    exact L36_3 _ (0) (Nat.lt_succ_self _) (by omega) _ _ hP hD hS ls (lv_sub hl [2, 1, 0] rfl)
  · skip
    refine lv_iconst (v := nI (1)) hx hb dX4_round_11 (by decide) ?_
    refine lv_goto (tgt := 16) hx hb dX4_round_12 (by decide) ?_
    refine va_put (D := D) (ci := 3) (v := .int (nI (1))) (ty := .int) (C := RX4) (T := TX4) (N := 14) hx hb hts iwX4_round_X4 tyX4 tyX4_ok nmX4 hown hK hP hD hS 0 rfl rfl 12 (by decide) (hts (.fieldLink RX4 39 "RepairSenderModel" "thrown" "I") (List.mem_of_getElem? (i := 2) rfl)) (fun _ h9 => h9) rfl (by decide +kernel) rfl rfl (Nat.le_of_ble_eq_true rfl) dX4_round_16 (fun H locs hP hD hS => ?_)
    have hP : va_P D vwCl (wM cI cZ am (k) (pat) (dat) (sent) (rc) (los) (wai) (set) (bad) (gon) (rep) (sil) (1) (na)) H := hP
    have hD : va_D A (wM cI cZ am (k) (pat) (dat) (sent) (rc) (los) (wai) (set) (bad) (gon) (rep) (sil) (1) (na)) := hD
    refine lv_aload_n hx hb dX4_round_19 rfl (lv_at hl 0 rfl) ?_
    refine va_get (D := D) (ci := 3) (v := .int (nI (1))) (C := RX4) (T := TX4) (N := 14) hx hb hts iwX4_round_X4 hown hK hP 0 rfl rfl 12 (by decide) (hts (.fieldLink RX4 39 "RepairSenderModel" "thrown" "I") (List.mem_of_getElem? (i := 2) rfl)) (fun _ h9 => h9) rfl dX4_round_20 ?_
    refine q_if_le (u := ((1 : Nat) : Int)) (tgt := 28) hx hb dX4_round_23 (by decide) (nI_toInt (by omega)) (fun c_23 => absurd c_23 (by decide)) (fun _ => ?_)
    refine lv_iconst (v := nI (0)) hx hb dX4_round_26 (by decide) ?_
    exact W.iret (v := nI (0)) hx hb hr (fun t ht hW => ⟨⟨_, (wM cI cZ am (k) (pat) (dat) (sent) (rc) (los) (wai) (set) (bad) (gon) (rep) (sil) (1) (na)), rfl, (by first | exact Or.inl ⟨rfl, by omega, rfl⟩ | exact Or.inr (⟨rfl, by omega, rfl⟩)), by rw [ht]; exact hP, hD⟩, hS.F ht⟩) hS.2.2 dX4_round_27

theorem iwX4_sent_X4 : ∀ w ∈ wsX40, w ∈ wsX4_sent := by decide +kernel
set_option maxHeartbeats 4000000 in
set_option maxRecDepth 100000 in
theorem c_X4_sent (l : Launch) (D : va_G) (cI cZ cQ cL : ClassId) (am : Nat → Nat) (k : Nat) (pat : Nat) (dat : Nat → B8) (sent : Nat) (rc : Nat) (los : Nat → Nat) (wai : Nat → Nat) (set : Nat → Nat) (bad : Nat → Nat) (gon : Nat → Nat) (rep : Nat) (sil : Nat) (thr : Nat) (na : Nat → Nat) (sz : Nat) : Met l yX4_sent wsX4_sent ({ frames := 0, cells := 0, slots := 0, locals := 0 } : Room) (PW D (TY cI cZ cQ cL) (wM cI cZ am (k) (pat) (dat) (sent) (rc) (los) (wai) (set) (bad) (gon) (rep) (sil) (thr) (na)) sz [.ref (am 0)]) (QI D (va_A (wM cI cZ am (k) (pat) (dat) (sent) (rc) (los) (wai) (set) (bad) (gon) (rep) (sil) (thr) (na)) sz) (fun z9 (_ : Unit) => z9 = nI (sent)) (fun _ => (wM cI cZ am (k) (pat) (dat) (sent) (rc) (los) (wai) (set) (bad) (gon) (rep) (sil) (0) (na)))) 0 0 (va_A (wM cI cZ am (k) (pat) (dat) (sent) (rc) (los) (wai) (set) (bad) (gon) (rep) (sil) (thr) (na)) sz) := by
  refine Met.ofW (cc := cX4_sent) (maxL := 1) (ret := (some .int)) (by decide) rfl ?_
  intro p e s m args below meth c s₁ B hml hv
  obtain ⟨rfl, hsz, hP, hK, hD0, hN⟩ := hv
  have hx := B.exec
  have hb := B.bytes
  have hr := B.returns
  have hts := atoms_spec (ws := wsX4_sent) B.pre
  have hown : s.vm.findClass RX4 = some m.cls := findClass_of_methodNamed B.named
  have hlocks := B.notSynchronized
  subst hsz
  have hD := hD0.self (sz := s.heap.size)
  generalize hAe : va_A (wM cI cZ am (k) (pat) (dat) (sent) (rc) (los) (wai) (set) (bad) (gon) (rep) (sil) (thr) (na)) s.heap.size = A at hD ⊢
  have hA : ∀ q : Nat, s.heap.size ≤ q → A q := fun q h => by rw [← hAe]; exact Or.inr h
  have hS : va_S A s.heap s.heap [] := va_S.rf
  have hl := lv_entry ([.ref (am 0)]) (n := 1) (Nat.le_of_ble_eq_true rfl)
  rw [lg_entry_eq]
  generalize (lg_sl ([.ref (am 0)]) ++ List.replicate (1 - (lg_sl ([.ref (am 0)])).length) Slot.unset).toArray = ls at hl ⊢
  have hl : lv_has ls 1 [(0, .ref (am 0))] := hl
  refine lv_aload_n hx hb dX4_sent_0 rfl (lv_at hl 0 rfl) ?_
  refine lv_iconst (v := nI (0)) hx hb dX4_sent_1 (by decide) ?_
  refine va_put (D := D) (ci := 3) (v := .int (nI (0))) (ty := .int) (C := RX4) (T := TX4) (N := 14) hx hb hts iwX4_sent_X4 tyX4 tyX4_ok nmX4 hown hK hP hD hS 0 rfl rfl 12 (by decide) (hts (.fieldLink RX4 39 "RepairSenderModel" "thrown" "I") (List.mem_of_getElem? (i := 1) rfl)) (fun _ h9 => h9) rfl (by decide +kernel) rfl rfl (Nat.le_of_ble_eq_true rfl) dX4_sent_2 (fun H locs hP hD hS => ?_)
  have hP : va_P D vwCl (wM cI cZ am (k) (pat) (dat) (sent) (rc) (los) (wai) (set) (bad) (gon) (rep) (sil) (0) (na)) H := hP
  have hD : va_D A (wM cI cZ am (k) (pat) (dat) (sent) (rc) (los) (wai) (set) (bad) (gon) (rep) (sil) (0) (na)) := hD
  refine lv_aload_n hx hb dX4_sent_5 rfl (lv_at hl 0 rfl) ?_
  refine va_get (D := D) (ci := 3) (v := .int (nI (sent))) (C := RX4) (T := TX4) (N := 14) hx hb hts iwX4_sent_X4 hown hK hP 0 rfl rfl 3 (by decide) (hts (.fieldLink RX4 49 "RepairSenderModel" "sentMany" "I") (List.mem_of_getElem? (i := 2) rfl)) (fun _ h9 => h9) rfl dX4_sent_6 ?_
  have hP : va_P D vwCl (wM cI cZ am (k) (pat) (dat) (sent) (rc) (los) (wai) (set) (bad) (gon) (rep) (sil) (0) (na)) H := hP
  have hD : va_D A (wM cI cZ am (k) (pat) (dat) (sent) (rc) (los) (wai) (set) (bad) (gon) (rep) (sil) (0) (na)) := hD
  exact W.iret (v := nI (sent)) hx hb hr (fun t ht hW => ⟨⟨_, (), rfl, (by rfl), by rw [ht]; exact hP, hD⟩, hS.F ht⟩) hS.2.2 dX4_sent_9

theorem iwX4_receivers_X4 : ∀ w ∈ wsX40, w ∈ wsX4_receivers := by decide +kernel
set_option maxHeartbeats 4000000 in
set_option maxRecDepth 100000 in
theorem c_X4_receivers (l : Launch) (D : va_G) (cI cZ cQ cL : ClassId) (am : Nat → Nat) (k : Nat) (pat : Nat) (dat : Nat → B8) (sent : Nat) (rc : Nat) (los : Nat → Nat) (wai : Nat → Nat) (set : Nat → Nat) (bad : Nat → Nat) (gon : Nat → Nat) (rep : Nat) (sil : Nat) (thr : Nat) (na : Nat → Nat) (sz : Nat) : Met l yX4_receivers wsX4_receivers ({ frames := 0, cells := 0, slots := 0, locals := 0 } : Room) (PW D (TY cI cZ cQ cL) (wM cI cZ am (k) (pat) (dat) (sent) (rc) (los) (wai) (set) (bad) (gon) (rep) (sil) (thr) (na)) sz [.ref (am 0)]) (QI D (va_A (wM cI cZ am (k) (pat) (dat) (sent) (rc) (los) (wai) (set) (bad) (gon) (rep) (sil) (thr) (na)) sz) (fun z9 (_ : Unit) => z9 = nI (rc)) (fun _ => (wM cI cZ am (k) (pat) (dat) (sent) (rc) (los) (wai) (set) (bad) (gon) (rep) (sil) (0) (na)))) 0 0 (va_A (wM cI cZ am (k) (pat) (dat) (sent) (rc) (los) (wai) (set) (bad) (gon) (rep) (sil) (thr) (na)) sz) := by
  refine Met.ofW (cc := cX4_receivers) (maxL := 1) (ret := (some .int)) (by decide) rfl ?_
  intro p e s m args below meth c s₁ B hml hv
  obtain ⟨rfl, hsz, hP, hK, hD0, hN⟩ := hv
  have hx := B.exec
  have hb := B.bytes
  have hr := B.returns
  have hts := atoms_spec (ws := wsX4_receivers) B.pre
  have hown : s.vm.findClass RX4 = some m.cls := findClass_of_methodNamed B.named
  have hlocks := B.notSynchronized
  subst hsz
  have hD := hD0.self (sz := s.heap.size)
  generalize hAe : va_A (wM cI cZ am (k) (pat) (dat) (sent) (rc) (los) (wai) (set) (bad) (gon) (rep) (sil) (thr) (na)) s.heap.size = A at hD ⊢
  have hA : ∀ q : Nat, s.heap.size ≤ q → A q := fun q h => by rw [← hAe]; exact Or.inr h
  have hS : va_S A s.heap s.heap [] := va_S.rf
  have hl := lv_entry ([.ref (am 0)]) (n := 1) (Nat.le_of_ble_eq_true rfl)
  rw [lg_entry_eq]
  generalize (lg_sl ([.ref (am 0)]) ++ List.replicate (1 - (lg_sl ([.ref (am 0)])).length) Slot.unset).toArray = ls at hl ⊢
  have hl : lv_has ls 1 [(0, .ref (am 0))] := hl
  refine lv_aload_n hx hb dX4_receivers_0 rfl (lv_at hl 0 rfl) ?_
  refine lv_iconst (v := nI (0)) hx hb dX4_receivers_1 (by decide) ?_
  refine va_put (D := D) (ci := 3) (v := .int (nI (0))) (ty := .int) (C := RX4) (T := TX4) (N := 14) hx hb hts iwX4_receivers_X4 tyX4 tyX4_ok nmX4 hown hK hP hD hS 0 rfl rfl 12 (by decide) (hts (.fieldLink RX4 39 "RepairSenderModel" "thrown" "I") (List.mem_of_getElem? (i := 1) rfl)) (fun _ h9 => h9) rfl (by decide +kernel) rfl rfl (Nat.le_of_ble_eq_true rfl) dX4_receivers_2 (fun H locs hP hD hS => ?_)
  have hP : va_P D vwCl (wM cI cZ am (k) (pat) (dat) (sent) (rc) (los) (wai) (set) (bad) (gon) (rep) (sil) (0) (na)) H := hP
  have hD : va_D A (wM cI cZ am (k) (pat) (dat) (sent) (rc) (los) (wai) (set) (bad) (gon) (rep) (sil) (0) (na)) := hD
  refine lv_aload_n hx hb dX4_receivers_5 rfl (lv_at hl 0 rfl) ?_
  refine va_get (D := D) (ci := 3) (v := .int (nI (rc))) (C := RX4) (T := TX4) (N := 14) hx hb hts iwX4_receivers_X4 hown hK hP 0 rfl rfl 4 (by decide) (hts (.fieldLink RX4 42 "RepairSenderModel" "receiverMany" "I") (List.mem_of_getElem? (i := 2) rfl)) (fun _ h9 => h9) rfl dX4_receivers_6 ?_
  have hP : va_P D vwCl (wM cI cZ am (k) (pat) (dat) (sent) (rc) (los) (wai) (set) (bad) (gon) (rep) (sil) (0) (na)) H := hP
  have hD : va_D A (wM cI cZ am (k) (pat) (dat) (sent) (rc) (los) (wai) (set) (bad) (gon) (rep) (sil) (0) (na)) := hD
  exact W.iret (v := nI (rc)) hx hb hr (fun t ht hW => ⟨⟨_, (), rfl, (by rfl), by rw [ht]; exact hP, hD⟩, hS.F ht⟩) hS.2.2 dX4_receivers_9

theorem iwX4_reports_X4 : ∀ w ∈ wsX40, w ∈ wsX4_reports := by decide +kernel
set_option maxHeartbeats 4000000 in
set_option maxRecDepth 100000 in
theorem c_X4_reports (l : Launch) (D : va_G) (cI cZ cQ cL : ClassId) (am : Nat → Nat) (k : Nat) (pat : Nat) (dat : Nat → B8) (sent : Nat) (rc : Nat) (los : Nat → Nat) (wai : Nat → Nat) (set : Nat → Nat) (bad : Nat → Nat) (gon : Nat → Nat) (rep : Nat) (sil : Nat) (thr : Nat) (na : Nat → Nat) (sz : Nat) : Met l yX4_reports wsX4_reports ({ frames := 0, cells := 0, slots := 0, locals := 0 } : Room) (PW D (TY cI cZ cQ cL) (wM cI cZ am (k) (pat) (dat) (sent) (rc) (los) (wai) (set) (bad) (gon) (rep) (sil) (thr) (na)) sz [.ref (am 0)]) (QI D (va_A (wM cI cZ am (k) (pat) (dat) (sent) (rc) (los) (wai) (set) (bad) (gon) (rep) (sil) (thr) (na)) sz) (fun z9 (_ : Unit) => z9 = nI (rep)) (fun _ => (wM cI cZ am (k) (pat) (dat) (sent) (rc) (los) (wai) (set) (bad) (gon) (rep) (sil) (0) (na)))) 0 0 (va_A (wM cI cZ am (k) (pat) (dat) (sent) (rc) (los) (wai) (set) (bad) (gon) (rep) (sil) (thr) (na)) sz) := by
  refine Met.ofW (cc := cX4_reports) (maxL := 1) (ret := (some .int)) (by decide) rfl ?_
  intro p e s m args below meth c s₁ B hml hv
  obtain ⟨rfl, hsz, hP, hK, hD0, hN⟩ := hv
  have hx := B.exec
  have hb := B.bytes
  have hr := B.returns
  have hts := atoms_spec (ws := wsX4_reports) B.pre
  have hown : s.vm.findClass RX4 = some m.cls := findClass_of_methodNamed B.named
  have hlocks := B.notSynchronized
  subst hsz
  have hD := hD0.self (sz := s.heap.size)
  generalize hAe : va_A (wM cI cZ am (k) (pat) (dat) (sent) (rc) (los) (wai) (set) (bad) (gon) (rep) (sil) (thr) (na)) s.heap.size = A at hD ⊢
  have hA : ∀ q : Nat, s.heap.size ≤ q → A q := fun q h => by rw [← hAe]; exact Or.inr h
  have hS : va_S A s.heap s.heap [] := va_S.rf
  have hl := lv_entry ([.ref (am 0)]) (n := 1) (Nat.le_of_ble_eq_true rfl)
  rw [lg_entry_eq]
  generalize (lg_sl ([.ref (am 0)]) ++ List.replicate (1 - (lg_sl ([.ref (am 0)])).length) Slot.unset).toArray = ls at hl ⊢
  have hl : lv_has ls 1 [(0, .ref (am 0))] := hl
  refine lv_aload_n hx hb dX4_reports_0 rfl (lv_at hl 0 rfl) ?_
  refine lv_iconst (v := nI (0)) hx hb dX4_reports_1 (by decide) ?_
  refine va_put (D := D) (ci := 3) (v := .int (nI (0))) (ty := .int) (C := RX4) (T := TX4) (N := 14) hx hb hts iwX4_reports_X4 tyX4 tyX4_ok nmX4 hown hK hP hD hS 0 rfl rfl 12 (by decide) (hts (.fieldLink RX4 39 "RepairSenderModel" "thrown" "I") (List.mem_of_getElem? (i := 1) rfl)) (fun _ h9 => h9) rfl (by decide +kernel) rfl rfl (Nat.le_of_ble_eq_true rfl) dX4_reports_2 (fun H locs hP hD hS => ?_)
  have hP : va_P D vwCl (wM cI cZ am (k) (pat) (dat) (sent) (rc) (los) (wai) (set) (bad) (gon) (rep) (sil) (0) (na)) H := hP
  have hD : va_D A (wM cI cZ am (k) (pat) (dat) (sent) (rc) (los) (wai) (set) (bad) (gon) (rep) (sil) (0) (na)) := hD
  refine lv_aload_n hx hb dX4_reports_5 rfl (lv_at hl 0 rfl) ?_
  refine va_get (D := D) (ci := 3) (v := .int (nI (rep))) (C := RX4) (T := TX4) (N := 14) hx hb hts iwX4_reports_X4 hown hK hP 0 rfl rfl 10 (by decide) (hts (.fieldLink RX4 52 "RepairSenderModel" "reportMany" "I") (List.mem_of_getElem? (i := 2) rfl)) (fun _ h9 => h9) rfl dX4_reports_6 ?_
  have hP : va_P D vwCl (wM cI cZ am (k) (pat) (dat) (sent) (rc) (los) (wai) (set) (bad) (gon) (rep) (sil) (0) (na)) H := hP
  have hD : va_D A (wM cI cZ am (k) (pat) (dat) (sent) (rc) (los) (wai) (set) (bad) (gon) (rep) (sil) (0) (na)) := hD
  exact W.iret (v := nI (rep)) hx hb hr (fun t ht hW => ⟨⟨_, (), rfl, (by rfl), by rw [ht]; exact hP, hD⟩, hS.F ht⟩) hS.2.2 dX4_reports_9

theorem iwX4_keptBack_X4 : ∀ w ∈ wsX40, w ∈ wsX4_keptBack := by decide +kernel
set_option maxHeartbeats 4000000 in
set_option maxRecDepth 100000 in
theorem c_X4_keptBack (l : Launch) (D : va_G) (cI cZ cQ cL : ClassId) (am : Nat → Nat) (k : Nat) (pat : Nat) (dat : Nat → B8) (sent : Nat) (rc : Nat) (los : Nat → Nat) (wai : Nat → Nat) (set : Nat → Nat) (bad : Nat → Nat) (gon : Nat → Nat) (rep : Nat) (sil : Nat) (thr : Nat) (na : Nat → Nat) (sz : Nat) : Met l yX4_keptBack wsX4_keptBack ({ frames := 0, cells := 0, slots := 0, locals := 0 } : Room) (PW D (TY cI cZ cQ cL) (wM cI cZ am (k) (pat) (dat) (sent) (rc) (los) (wai) (set) (bad) (gon) (rep) (sil) (thr) (na)) sz [.ref (am 0)]) (QI D (va_A (wM cI cZ am (k) (pat) (dat) (sent) (rc) (los) (wai) (set) (bad) (gon) (rep) (sil) (thr) (na)) sz) (fun z9 (_ : Unit) => z9 = nI (sil)) (fun _ => (wM cI cZ am (k) (pat) (dat) (sent) (rc) (los) (wai) (set) (bad) (gon) (rep) (sil) (0) (na)))) 0 0 (va_A (wM cI cZ am (k) (pat) (dat) (sent) (rc) (los) (wai) (set) (bad) (gon) (rep) (sil) (thr) (na)) sz) := by
  refine Met.ofW (cc := cX4_keptBack) (maxL := 1) (ret := (some .int)) (by decide) rfl ?_
  intro p e s m args below meth c s₁ B hml hv
  obtain ⟨rfl, hsz, hP, hK, hD0, hN⟩ := hv
  have hx := B.exec
  have hb := B.bytes
  have hr := B.returns
  have hts := atoms_spec (ws := wsX4_keptBack) B.pre
  have hown : s.vm.findClass RX4 = some m.cls := findClass_of_methodNamed B.named
  have hlocks := B.notSynchronized
  subst hsz
  have hD := hD0.self (sz := s.heap.size)
  generalize hAe : va_A (wM cI cZ am (k) (pat) (dat) (sent) (rc) (los) (wai) (set) (bad) (gon) (rep) (sil) (thr) (na)) s.heap.size = A at hD ⊢
  have hA : ∀ q : Nat, s.heap.size ≤ q → A q := fun q h => by rw [← hAe]; exact Or.inr h
  have hS : va_S A s.heap s.heap [] := va_S.rf
  have hl := lv_entry ([.ref (am 0)]) (n := 1) (Nat.le_of_ble_eq_true rfl)
  rw [lg_entry_eq]
  generalize (lg_sl ([.ref (am 0)]) ++ List.replicate (1 - (lg_sl ([.ref (am 0)])).length) Slot.unset).toArray = ls at hl ⊢
  have hl : lv_has ls 1 [(0, .ref (am 0))] := hl
  refine lv_aload_n hx hb dX4_keptBack_0 rfl (lv_at hl 0 rfl) ?_
  refine lv_iconst (v := nI (0)) hx hb dX4_keptBack_1 (by decide) ?_
  refine va_put (D := D) (ci := 3) (v := .int (nI (0))) (ty := .int) (C := RX4) (T := TX4) (N := 14) hx hb hts iwX4_keptBack_X4 tyX4 tyX4_ok nmX4 hown hK hP hD hS 0 rfl rfl 12 (by decide) (hts (.fieldLink RX4 39 "RepairSenderModel" "thrown" "I") (List.mem_of_getElem? (i := 1) rfl)) (fun _ h9 => h9) rfl (by decide +kernel) rfl rfl (Nat.le_of_ble_eq_true rfl) dX4_keptBack_2 (fun H locs hP hD hS => ?_)
  have hP : va_P D vwCl (wM cI cZ am (k) (pat) (dat) (sent) (rc) (los) (wai) (set) (bad) (gon) (rep) (sil) (0) (na)) H := hP
  have hD : va_D A (wM cI cZ am (k) (pat) (dat) (sent) (rc) (los) (wai) (set) (bad) (gon) (rep) (sil) (0) (na)) := hD
  refine lv_aload_n hx hb dX4_keptBack_5 rfl (lv_at hl 0 rfl) ?_
  refine va_get (D := D) (ci := 3) (v := .int (nI (sil))) (C := RX4) (T := TX4) (N := 14) hx hb hts iwX4_keptBack_X4 hown hK hP 0 rfl rfl 11 (by decide) (hts (.fieldLink RX4 55 "RepairSenderModel" "silentMany" "I") (List.mem_of_getElem? (i := 2) rfl)) (fun _ h9 => h9) rfl dX4_keptBack_6 ?_
  have hP : va_P D vwCl (wM cI cZ am (k) (pat) (dat) (sent) (rc) (los) (wai) (set) (bad) (gon) (rep) (sil) (0) (na)) H := hP
  have hD : va_D A (wM cI cZ am (k) (pat) (dat) (sent) (rc) (los) (wai) (set) (bad) (gon) (rep) (sil) (0) (na)) := hD
  exact W.iret (v := nI (sil)) hx hb hr (fun t ht hW => ⟨⟨_, (), rfl, (by rfl), by rw [ht]; exact hP, hD⟩, hS.F ht⟩) hS.2.2 dX4_keptBack_9

theorem iwX4_asksFor_X4 : ∀ w ∈ wsX40, w ∈ wsX4_asksFor := by decide +kernel
set_option maxHeartbeats 4000000 in
set_option maxRecDepth 100000 in
theorem c_X4_asksFor (l : Launch) (D : va_G) (cI cZ cQ cL : ClassId) (am : Nat → Nat) (k : Nat) (pat : Nat) (dat : Nat → B8) (sent : Nat) (rc : Nat) (los : Nat → Nat) (wai : Nat → Nat) (set : Nat → Nat) (bad : Nat → Nat) (gon : Nat → Nat) (rep : Nat) (sil : Nat) (thr : Nat) (na : Nat → Nat) (x0 : Int32) (sz : Nat) (hrc : rc ≤ 6) : Met l yX4_asksFor wsX4_asksFor ({ frames := 2, cells := 0, slots := 0, locals := 43 } : Room) (PW D (TY cI cZ cQ cL) (wM cI cZ am (k) (pat) (dat) (sent) (rc) (los) (wai) (set) (bad) (gon) (rep) (sil) (thr) (na)) sz [.ref (am 0), .int (x0)]) (QI D (va_A (wM cI cZ am (k) (pat) (dat) (sent) (rc) (los) (wai) (set) (bad) (gon) (rep) (sil) (thr) (na)) sz) (fun z9 (u9 : va_W) => (z9 = nI (1) ∧ (0 ≤ x0.toInt ∧ x0.toInt < rc) ∧ u9 = (wM cI cZ am (k) (pat) (dat) (sent) (rc) (los) (wai) (set) (bad) (gon) (rep) (sil) (0) (na))) ∨ (z9 = nI (0) ∧ (¬ (0 ≤ x0.toInt ∧ x0.toInt < rc)) ∧ u9 = (wM cI cZ am (k) (pat) (dat) (sent) (rc) (los) (wai) (set) (bad) (gon) (rep) (sil) (1) (na)))) (fun u9 => u9)) 0 0 (va_A (wM cI cZ am (k) (pat) (dat) (sent) (rc) (los) (wai) (set) (bad) (gon) (rep) (sil) (thr) (na)) sz) := by
  refine Met.ofW (cc := cX4_asksFor) (maxL := 2) (ret := (some .boolean)) (by decide) rfl ?_
  intro p e s m args below meth c s₁ B hml hv
  obtain ⟨rfl, hsz, hP, hK, hD0, hN⟩ := hv
  have hx := B.exec
  have hb := B.bytes
  have hr := B.returns
  have hts := atoms_spec (ws := wsX4_asksFor) B.pre
  have hown : s.vm.findClass RX4 = some m.cls := findClass_of_methodNamed B.named
  have hlocks := B.notSynchronized
  subst hsz
  have hD := hD0.self (sz := s.heap.size)
  generalize hAe : va_A (wM cI cZ am (k) (pat) (dat) (sent) (rc) (los) (wai) (set) (bad) (gon) (rep) (sil) (thr) (na)) s.heap.size = A at hD ⊢
  have hA : ∀ q : Nat, s.heap.size ≤ q → A q := fun q h => by rw [← hAe]; exact Or.inr h
  have hS : va_S A s.heap s.heap [] := va_S.rf
  have hl := lv_entry ([.ref (am 0), .int (x0)]) (n := 2) (Nat.le_of_ble_eq_true rfl)
  rw [lg_entry_eq]
  generalize (lg_sl ([.ref (am 0), .int (x0)]) ++ List.replicate (2 - (lg_sl ([.ref (am 0), .int (x0)])).length) Slot.unset).toArray = ls at hl ⊢
  have hl : lv_has ls 2 [(0, .ref (am 0)), (1, .int (x0))] := hl
  refine lv_aload_n hx hb dX4_asksFor_0 rfl (lv_at hl 0 rfl) ?_
  refine lv_aload_n hx hb dX4_asksFor_1 rfl (lv_at hl 0 rfl) ?_
  refine lv_iload_n hx hb dX4_asksFor_2 rfl (lv_at hl 1 rfl) ?_
  have hPc : va_P D vwCl (wM cI cZ am (k) (pat) (dat) (sent) (rc) (los) (wai) (set) (bad) (gon) (rep) (sil) (thr) (na)) s.heap := hP
  refine q_csi (va_runV (As := [.int (x0)]) (rest := [.ref (am 0)]) ⟨hx, hb, hml, hown, hts⟩ (c_X4_isReceiver l D cI cZ cQ cL (am) (k) (pat) (dat) (sent) (rc) (los) (wai) (set) (bad) (gon) (rep) (sil) (thr) (na) (x0) s.heap.size (hrc)) (cwV 1 hts gX4_asksFor_X4_isReceiver rfl rfl rfl ⟨rfl, hd_X4_isReceiver⟩ ⟨Nat.le_of_ble_eq_true rfl, Nat.le_of_ble_eq_true rfl⟩) (PW_v (q := (RX4, TX4, 14)) (ci := 3) (q0 := 0) hPc hK hD hN rfl rfl) rfl rfl hl.1 rfl (lv_room (Nat.le_of_ble_eq_true rfl)) dX4_asksFor_3 ⟨Nat.le_of_ble_eq_true rfl, Nat.le_of_ble_eq_true rfl⟩) (fun r_3 hr_3 => ?_)
  rcases hr_3 with ⟨rfl, h_3⟩ | ⟨rfl, h_3⟩
  · have h_3 : 0 ≤ x0.toInt ∧ x0.toInt < rc := h_3
    refine q_if_eq (u := ((1 : Nat) : Int)) (tgt := 13) hx hb dX4_asksFor_6 (by decide) (nI_toInt (by omega)) (fun c_6 => absurd c_6 (by decide)) (fun _ => ?_)
    refine lv_iconst (v := nI (0)) hx hb dX4_asksFor_9 (by decide) ?_
    refine lv_goto (tgt := 14) hx hb dX4_asksFor_10 (by decide) ?_
    refine va_put (D := D) (ci := 3) (v := .int (nI (0))) (ty := .int) (C := RX4) (T := TX4) (N := 14) hx hb hts iwX4_asksFor_X4 tyX4 tyX4_ok nmX4 hown hK hP hD hS 0 rfl rfl 12 (by decide) (hts (.fieldLink RX4 39 "RepairSenderModel" "thrown" "I") (List.mem_of_getElem? (i := 1) rfl)) (fun _ h9 => h9) rfl (by decide +kernel) rfl rfl (Nat.le_of_ble_eq_true rfl) dX4_asksFor_14 (fun H locs hP hD hS => ?_)
    have hP : va_P D vwCl (wM cI cZ am (k) (pat) (dat) (sent) (rc) (los) (wai) (set) (bad) (gon) (rep) (sil) (0) (na)) H := hP
    have hD : va_D A (wM cI cZ am (k) (pat) (dat) (sent) (rc) (los) (wai) (set) (bad) (gon) (rep) (sil) (0) (na)) := hD
    refine lv_aload_n hx hb dX4_asksFor_17 rfl (lv_at hl 0 rfl) ?_
    refine va_get (D := D) (ci := 3) (v := .int (nI (0))) (C := RX4) (T := TX4) (N := 14) hx hb hts iwX4_asksFor_X4 hown hK hP 0 rfl rfl 12 (by decide) (hts (.fieldLink RX4 39 "RepairSenderModel" "thrown" "I") (List.mem_of_getElem? (i := 1) rfl)) (fun _ h9 => h9) rfl dX4_asksFor_18 ?_
    refine q_if_ne (u := ((0 : Nat) : Int)) (tgt := 28) hx hb dX4_asksFor_21 (by decide) (nI_toInt (by omega)) (fun c_21 => absurd c_21 (by decide)) (fun _ => ?_)
    refine lv_iconst (v := nI (1)) hx hb dX4_asksFor_24 (by decide) ?_
    refine lv_goto (tgt := 29) hx hb dX4_asksFor_25 (by decide) ?_
    exact W.zret (v := nI (1)) hx hb hr (rfl) (fun t ht hW => ⟨⟨_, (wM cI cZ am (k) (pat) (dat) (sent) (rc) (los) (wai) (set) (bad) (gon) (rep) (sil) (0) (na)), rfl, (by first | exact Or.inl ⟨rfl, by omega, rfl⟩ | exact Or.inr (⟨rfl, by omega, rfl⟩)), by rw [ht]; exact hP, hD⟩, hS.F ht⟩) hS.2.2 dX4_asksFor_29
  · have h_3 : ¬ (0 ≤ x0.toInt ∧ x0.toInt < rc) := h_3
    refine q_if_eq (u := ((0 : Nat) : Int)) (tgt := 13) hx hb dX4_asksFor_6 (by decide) (nI_toInt (by omega)) (fun _ => ?_) (fun c_6 => absurd c_6 (by decide))
    refine lv_iconst (v := nI (1)) hx hb dX4_asksFor_13 (by decide) ?_
    refine va_put (D := D) (ci := 3) (v := .int (nI (1))) (ty := .int) (C := RX4) (T := TX4) (N := 14) hx hb hts iwX4_asksFor_X4 tyX4 tyX4_ok nmX4 hown hK hP hD hS 0 rfl rfl 12 (by decide) (hts (.fieldLink RX4 39 "RepairSenderModel" "thrown" "I") (List.mem_of_getElem? (i := 1) rfl)) (fun _ h9 => h9) rfl (by decide +kernel) rfl rfl (Nat.le_of_ble_eq_true rfl) dX4_asksFor_14 (fun H locs hP hD hS => ?_)
    have hP : va_P D vwCl (wM cI cZ am (k) (pat) (dat) (sent) (rc) (los) (wai) (set) (bad) (gon) (rep) (sil) (1) (na)) H := hP
    have hD : va_D A (wM cI cZ am (k) (pat) (dat) (sent) (rc) (los) (wai) (set) (bad) (gon) (rep) (sil) (1) (na)) := hD
    refine lv_aload_n hx hb dX4_asksFor_17 rfl (lv_at hl 0 rfl) ?_
    refine va_get (D := D) (ci := 3) (v := .int (nI (1))) (C := RX4) (T := TX4) (N := 14) hx hb hts iwX4_asksFor_X4 hown hK hP 0 rfl rfl 12 (by decide) (hts (.fieldLink RX4 39 "RepairSenderModel" "thrown" "I") (List.mem_of_getElem? (i := 1) rfl)) (fun _ h9 => h9) rfl dX4_asksFor_18 ?_
    refine q_if_ne (u := ((1 : Nat) : Int)) (tgt := 28) hx hb dX4_asksFor_21 (by decide) (nI_toInt (by omega)) (fun _ => ?_) (fun c_21 => absurd c_21 (by decide))
    refine lv_iconst (v := nI (0)) hx hb dX4_asksFor_28 (by decide) ?_
    exact W.zret (v := nI (0)) hx hb hr (rfl) (fun t ht hW => ⟨⟨_, (wM cI cZ am (k) (pat) (dat) (sent) (rc) (los) (wai) (set) (bad) (gon) (rep) (sil) (1) (na)), rfl, (by first | exact Or.inl ⟨rfl, by omega, rfl⟩ | exact Or.inr (⟨rfl, by omega, rfl⟩)), by rw [ht]; exact hP, hD⟩, hS.F ht⟩) hS.2.2 dX4_asksFor_29

theorem iwX4_has_X4 : ∀ w ∈ wsX40, w ∈ wsX4_has := by decide +kernel
set_option maxHeartbeats 4000000 in
set_option maxRecDepth 100000 in
theorem c_X4_has (l : Launch) (D : va_G) (cI cZ cQ cL : ClassId) (am : Nat → Nat) (k : Nat) (pat : Nat) (dat : Nat → B8) (sent : Nat) (rc : Nat) (los : Nat → Nat) (wai : Nat → Nat) (set : Nat → Nat) (bad : Nat → Nat) (gon : Nat → Nat) (rep : Nat) (sil : Nat) (thr : Nat) (na : Nat → Nat) (x0 : Int32) (sz : Nat) (hrc : rc ≤ 6) : Met l yX4_has wsX4_has ({ frames := 3, cells := 0, slots := 0, locals := 64 } : Room) (PW D (TY cI cZ cQ cL) (wM cI cZ am (k) (pat) (dat) (sent) (rc) (los) (wai) (set) (bad) (gon) (rep) (sil) (thr) (na)) sz [.ref (am 0), .int (x0)]) (QI D (va_A (wM cI cZ am (k) (pat) (dat) (sent) (rc) (los) (wai) (set) (bad) (gon) (rep) (sil) (thr) (na)) sz) (fun z9 (u9 : va_W) => (z9 = nI (set (tn x0)) ∧ (0 ≤ x0.toInt ∧ x0.toInt < rc) ∧ u9 = (wM cI cZ am (k) (pat) (dat) (sent) (rc) (los) (wai) (set) (bad) (gon) (rep) (sil) (0) (na))) ∨ (z9 = nI (0) ∧ (¬ (0 ≤ x0.toInt ∧ x0.toInt < rc)) ∧ u9 = (wM cI cZ am (k) (pat) (dat) (sent) (rc) (los) (wai) (set) (bad) (gon) (rep) (sil) (1) (na)))) (fun u9 => u9)) 0 0 (va_A (wM cI cZ am (k) (pat) (dat) (sent) (rc) (los) (wai) (set) (bad) (gon) (rep) (sil) (thr) (na)) sz) := by
  refine Met.ofW (cc := cX4_has) (maxL := 2) (ret := (some .int)) (by decide) rfl ?_
  intro p e s m args below meth c s₁ B hml hv
  obtain ⟨rfl, hsz, hP, hK, hD0, hN⟩ := hv
  have hx := B.exec
  have hb := B.bytes
  have hr := B.returns
  have hts := atoms_spec (ws := wsX4_has) B.pre
  have hown : s.vm.findClass RX4 = some m.cls := findClass_of_methodNamed B.named
  have hlocks := B.notSynchronized
  subst hsz
  have hD := hD0.self (sz := s.heap.size)
  generalize hAe : va_A (wM cI cZ am (k) (pat) (dat) (sent) (rc) (los) (wai) (set) (bad) (gon) (rep) (sil) (thr) (na)) s.heap.size = A at hD ⊢
  have hA : ∀ q : Nat, s.heap.size ≤ q → A q := fun q h => by rw [← hAe]; exact Or.inr h
  have hS : va_S A s.heap s.heap [] := va_S.rf
  have hl := lv_entry ([.ref (am 0), .int (x0)]) (n := 2) (Nat.le_of_ble_eq_true rfl)
  rw [lg_entry_eq]
  generalize (lg_sl ([.ref (am 0), .int (x0)]) ++ List.replicate (2 - (lg_sl ([.ref (am 0), .int (x0)])).length) Slot.unset).toArray = ls at hl ⊢
  have hl : lv_has ls 2 [(0, .ref (am 0)), (1, .int (x0))] := hl
  refine lv_aload_n hx hb dX4_has_0 rfl (lv_at hl 0 rfl) ?_
  refine lv_iload_n hx hb dX4_has_1 rfl (lv_at hl 1 rfl) ?_
  have hPc : va_P D vwCl (wM cI cZ am (k) (pat) (dat) (sent) (rc) (los) (wai) (set) (bad) (gon) (rep) (sil) (thr) (na)) s.heap := hP
  refine q_ci (wc := (wM cI cZ am (k) (pat) (dat) (sent) (rc) (los) (wai) (set) (bad) (gon) (rep) (sil) (thr) (na))) (wr := []) (w1 := fun u9 => u9) (va_runV (As := [.int (x0)]) (rest := []) ⟨hx, hb, hml, hown, hts⟩ (c_X4_asksFor l D cI cZ cQ cL (am) (k) (pat) (dat) (sent) (rc) (los) (wai) (set) (bad) (gon) (rep) (sil) (thr) (na) (x0) s.heap.size (hrc)) (cwV 1 hts gX4_has_X4_asksFor rfl rfl rfl ⟨rfl, hd_X4_asksFor⟩ ⟨Nat.le_of_ble_eq_true rfl, Nat.le_of_ble_eq_true rfl⟩) (PW_v (q := (RX4, TX4, 14)) (ci := 3) (q0 := 0) hPc hK hD hN rfl rfl) rfl rfl hl.1 rfl (lv_room (Nat.le_of_ble_eq_true rfl)) dX4_has_2 ⟨Nat.le_of_ble_eq_true rfl, Nat.le_of_ble_eq_true rfl⟩) hP hD hS hA [0, 1, 2, 3, 4, 5, 6, 7] [] rfl rfl (by decide) (by decide) (fun r_2 u_2 H locs h_2 hP hD hS => ?_)
  rcases h_2 with ⟨rfl, h_2, rfl⟩ | ⟨rfl, h_2, rfl⟩
  · have h_2 : 0 ≤ x0.toInt ∧ x0.toInt < rc := h_2
    have hP : va_P D vwCl (wM cI cZ am (k) (pat) (dat) (sent) (rc) (los) (wai) (set) (bad) (gon) (rep) (sil) (0) (na)) H := hP
    have hD : va_D A (wM cI cZ am (k) (pat) (dat) (sent) (rc) (los) (wai) (set) (bad) (gon) (rep) (sil) (0) (na)) := hD
    refine q_if_eq (u := ((1 : Nat) : Int)) (tgt := 17) hx hb dX4_has_5 (by decide) (nI_toInt (by omega)) (fun c_5 => absurd c_5 (by decide)) (fun _ => ?_)
    have ht_x0 := tn_i (x := x0) (by omega)
    refine lv_aload_n hx hb dX4_has_8 rfl (lv_at hl 0 rfl) ?_
    refine va_get (D := D) (ci := 3) (v := .ref (am 4)) (C := RX4) (T := TX4) (N := 14) hx hb hts iwX4_has_X4 hown hK hP 0 rfl rfl 7 (by decide) (hts (.fieldLink RX4 19 "RepairSenderModel" "sets" "[I") (List.mem_of_getElem? (i := 1) rfl)) (fun _ h9 => h9) rfl dX4_has_9 ?_
    refine lv_iload_n hx hb dX4_has_12 rfl (lv_at hl 1 rfl) ?_
    refine q_top (show (x0) = nI (tn x0) from tn_I (by omega)) ?_
    refine q_iald (f := set) (j := tn x0) hx hb hK hP 4 0 rfl rfl (by omega) (by decide) dX4_has_13 ?_
    refine lv_goto (tgt := 18) hx hb dX4_has_14 (by decide) ?_
    exact W.iret (v := nI (set (tn x0))) hx hb hr (fun t ht hW => ⟨⟨_, (wM cI cZ am (k) (pat) (dat) (sent) (rc) (los) (wai) (set) (bad) (gon) (rep) (sil) (0) (na)), rfl, (by first | exact Or.inl ⟨rfl, by omega, rfl⟩ | exact Or.inr (⟨rfl, by omega, rfl⟩)), by rw [ht]; exact hP, hD⟩, hS.F ht⟩) hS.2.2 dX4_has_18
  · have h_2 : ¬ (0 ≤ x0.toInt ∧ x0.toInt < rc) := h_2
    have hP : va_P D vwCl (wM cI cZ am (k) (pat) (dat) (sent) (rc) (los) (wai) (set) (bad) (gon) (rep) (sil) (1) (na)) H := hP
    have hD : va_D A (wM cI cZ am (k) (pat) (dat) (sent) (rc) (los) (wai) (set) (bad) (gon) (rep) (sil) (1) (na)) := hD
    refine q_if_eq (u := ((0 : Nat) : Int)) (tgt := 17) hx hb dX4_has_5 (by decide) (nI_toInt (by omega)) (fun _ => ?_) (fun c_5 => absurd c_5 (by decide))
    refine lv_iconst (v := nI (0)) hx hb dX4_has_17 (by decide) ?_
    exact W.iret (v := nI (0)) hx hb hr (fun t ht hW => ⟨⟨_, (wM cI cZ am (k) (pat) (dat) (sent) (rc) (los) (wai) (set) (bad) (gon) (rep) (sil) (1) (na)), rfl, (by first | exact Or.inl ⟨rfl, by omega, rfl⟩ | exact Or.inr (⟨rfl, by omega, rfl⟩)), by rw [ht]; exact hP, hD⟩, hS.F ht⟩) hS.2.2 dX4_has_18

theorem iwX4_badRounds_X4 : ∀ w ∈ wsX40, w ∈ wsX4_badRounds := by decide +kernel
set_option maxHeartbeats 4000000 in
set_option maxRecDepth 100000 in
theorem c_X4_badRounds (l : Launch) (D : va_G) (cI cZ cQ cL : ClassId) (am : Nat → Nat) (k : Nat) (pat : Nat) (dat : Nat → B8) (sent : Nat) (rc : Nat) (los : Nat → Nat) (wai : Nat → Nat) (set : Nat → Nat) (bad : Nat → Nat) (gon : Nat → Nat) (rep : Nat) (sil : Nat) (thr : Nat) (na : Nat → Nat) (x0 : Int32) (sz : Nat) (hrc : rc ≤ 6) : Met l yX4_badRounds wsX4_badRounds ({ frames := 3, cells := 0, slots := 0, locals := 64 } : Room) (PW D (TY cI cZ cQ cL) (wM cI cZ am (k) (pat) (dat) (sent) (rc) (los) (wai) (set) (bad) (gon) (rep) (sil) (thr) (na)) sz [.ref (am 0), .int (x0)]) (QI D (va_A (wM cI cZ am (k) (pat) (dat) (sent) (rc) (los) (wai) (set) (bad) (gon) (rep) (sil) (thr) (na)) sz) (fun z9 (u9 : va_W) => (z9 = nI (bad (tn x0)) ∧ (0 ≤ x0.toInt ∧ x0.toInt < rc) ∧ u9 = (wM cI cZ am (k) (pat) (dat) (sent) (rc) (los) (wai) (set) (bad) (gon) (rep) (sil) (0) (na))) ∨ (z9 = nI (0) ∧ (¬ (0 ≤ x0.toInt ∧ x0.toInt < rc)) ∧ u9 = (wM cI cZ am (k) (pat) (dat) (sent) (rc) (los) (wai) (set) (bad) (gon) (rep) (sil) (1) (na)))) (fun u9 => u9)) 0 0 (va_A (wM cI cZ am (k) (pat) (dat) (sent) (rc) (los) (wai) (set) (bad) (gon) (rep) (sil) (thr) (na)) sz) := by
  refine Met.ofW (cc := cX4_badRounds) (maxL := 2) (ret := (some .int)) (by decide) rfl ?_
  intro p e s m args below meth c s₁ B hml hv
  obtain ⟨rfl, hsz, hP, hK, hD0, hN⟩ := hv
  have hx := B.exec
  have hb := B.bytes
  have hr := B.returns
  have hts := atoms_spec (ws := wsX4_badRounds) B.pre
  have hown : s.vm.findClass RX4 = some m.cls := findClass_of_methodNamed B.named
  have hlocks := B.notSynchronized
  subst hsz
  have hD := hD0.self (sz := s.heap.size)
  generalize hAe : va_A (wM cI cZ am (k) (pat) (dat) (sent) (rc) (los) (wai) (set) (bad) (gon) (rep) (sil) (thr) (na)) s.heap.size = A at hD ⊢
  have hA : ∀ q : Nat, s.heap.size ≤ q → A q := fun q h => by rw [← hAe]; exact Or.inr h
  have hS : va_S A s.heap s.heap [] := va_S.rf
  have hl := lv_entry ([.ref (am 0), .int (x0)]) (n := 2) (Nat.le_of_ble_eq_true rfl)
  rw [lg_entry_eq]
  generalize (lg_sl ([.ref (am 0), .int (x0)]) ++ List.replicate (2 - (lg_sl ([.ref (am 0), .int (x0)])).length) Slot.unset).toArray = ls at hl ⊢
  have hl : lv_has ls 2 [(0, .ref (am 0)), (1, .int (x0))] := hl
  refine lv_aload_n hx hb dX4_badRounds_0 rfl (lv_at hl 0 rfl) ?_
  refine lv_iload_n hx hb dX4_badRounds_1 rfl (lv_at hl 1 rfl) ?_
  have hPc : va_P D vwCl (wM cI cZ am (k) (pat) (dat) (sent) (rc) (los) (wai) (set) (bad) (gon) (rep) (sil) (thr) (na)) s.heap := hP
  refine q_ci (wc := (wM cI cZ am (k) (pat) (dat) (sent) (rc) (los) (wai) (set) (bad) (gon) (rep) (sil) (thr) (na))) (wr := []) (w1 := fun u9 => u9) (va_runV (As := [.int (x0)]) (rest := []) ⟨hx, hb, hml, hown, hts⟩ (c_X4_asksFor l D cI cZ cQ cL (am) (k) (pat) (dat) (sent) (rc) (los) (wai) (set) (bad) (gon) (rep) (sil) (thr) (na) (x0) s.heap.size (hrc)) (cwV 1 hts gX4_badRounds_X4_asksFor rfl rfl rfl ⟨rfl, hd_X4_asksFor⟩ ⟨Nat.le_of_ble_eq_true rfl, Nat.le_of_ble_eq_true rfl⟩) (PW_v (q := (RX4, TX4, 14)) (ci := 3) (q0 := 0) hPc hK hD hN rfl rfl) rfl rfl hl.1 rfl (lv_room (Nat.le_of_ble_eq_true rfl)) dX4_badRounds_2 ⟨Nat.le_of_ble_eq_true rfl, Nat.le_of_ble_eq_true rfl⟩) hP hD hS hA [0, 1, 2, 3, 4, 5, 6, 7] [] rfl rfl (by decide) (by decide) (fun r_2 u_2 H locs h_2 hP hD hS => ?_)
  rcases h_2 with ⟨rfl, h_2, rfl⟩ | ⟨rfl, h_2, rfl⟩
  · have h_2 : 0 ≤ x0.toInt ∧ x0.toInt < rc := h_2
    have hP : va_P D vwCl (wM cI cZ am (k) (pat) (dat) (sent) (rc) (los) (wai) (set) (bad) (gon) (rep) (sil) (0) (na)) H := hP
    have hD : va_D A (wM cI cZ am (k) (pat) (dat) (sent) (rc) (los) (wai) (set) (bad) (gon) (rep) (sil) (0) (na)) := hD
    refine q_if_eq (u := ((1 : Nat) : Int)) (tgt := 17) hx hb dX4_badRounds_5 (by decide) (nI_toInt (by omega)) (fun c_5 => absurd c_5 (by decide)) (fun _ => ?_)
    have ht_x0 := tn_i (x := x0) (by omega)
    refine lv_aload_n hx hb dX4_badRounds_8 rfl (lv_at hl 0 rfl) ?_
    refine va_get (D := D) (ci := 3) (v := .ref (am 5)) (C := RX4) (T := TX4) (N := 14) hx hb hts iwX4_badRounds_X4 hown hK hP 0 rfl rfl 8 (by decide) (hts (.fieldLink RX4 22 "RepairSenderModel" "bads" "[I") (List.mem_of_getElem? (i := 1) rfl)) (fun _ h9 => h9) rfl dX4_badRounds_9 ?_
    refine lv_iload_n hx hb dX4_badRounds_12 rfl (lv_at hl 1 rfl) ?_
    refine q_top (show (x0) = nI (tn x0) from tn_I (by omega)) ?_
    refine q_iald (f := bad) (j := tn x0) hx hb hK hP 5 0 rfl rfl (by omega) (by decide) dX4_badRounds_13 ?_
    refine lv_goto (tgt := 18) hx hb dX4_badRounds_14 (by decide) ?_
    exact W.iret (v := nI (bad (tn x0))) hx hb hr (fun t ht hW => ⟨⟨_, (wM cI cZ am (k) (pat) (dat) (sent) (rc) (los) (wai) (set) (bad) (gon) (rep) (sil) (0) (na)), rfl, (by first | exact Or.inl ⟨rfl, by omega, rfl⟩ | exact Or.inr (⟨rfl, by omega, rfl⟩)), by rw [ht]; exact hP, hD⟩, hS.F ht⟩) hS.2.2 dX4_badRounds_18
  · have h_2 : ¬ (0 ≤ x0.toInt ∧ x0.toInt < rc) := h_2
    have hP : va_P D vwCl (wM cI cZ am (k) (pat) (dat) (sent) (rc) (los) (wai) (set) (bad) (gon) (rep) (sil) (1) (na)) H := hP
    have hD : va_D A (wM cI cZ am (k) (pat) (dat) (sent) (rc) (los) (wai) (set) (bad) (gon) (rep) (sil) (1) (na)) := hD
    refine q_if_eq (u := ((0 : Nat) : Int)) (tgt := 17) hx hb dX4_badRounds_5 (by decide) (nI_toInt (by omega)) (fun _ => ?_) (fun c_5 => absurd c_5 (by decide))
    refine lv_iconst (v := nI (0)) hx hb dX4_badRounds_17 (by decide) ?_
    exact W.iret (v := nI (0)) hx hb hr (fun t ht hW => ⟨⟨_, (wM cI cZ am (k) (pat) (dat) (sent) (rc) (los) (wai) (set) (bad) (gon) (rep) (sil) (1) (na)), rfl, (by first | exact Or.inl ⟨rfl, by omega, rfl⟩ | exact Or.inr (⟨rfl, by omega, rfl⟩)), by rw [ht]; exact hP, hD⟩, hS.F ht⟩) hS.2.2 dX4_badRounds_18

set_option maxHeartbeats 4000000 in
set_option maxRecDepth 100000 in
theorem c_X4_need (l : Launch) (D : va_G) (cI cZ cQ cL : ClassId) (am : Nat → Nat) (k : Nat) (pat : Nat) (dat : Nat → B8) (sent : Nat) (rc : Nat) (los : Nat → Nat) (wai : Nat → Nat) (set : Nat → Nat) (bad : Nat → Nat) (gon : Nat → Nat) (rep : Nat) (sil : Nat) (thr : Nat) (na : Nat → Nat) (x0 : Int32) (sz : Nat) (hrc : rc ≤ 6) (hset : ∀ r, r < 6 → set r < 65536) (hbk : k ≤ 8) : Met l yX4_need wsX4_need ({ frames := 3, cells := 0, slots := 0, locals := 64 } : Room) (PW D (TY cI cZ cQ cL) (wM cI cZ am (k) (pat) (dat) (sent) (rc) (los) (wai) (set) (bad) (gon) (rep) (sil) (thr) (na)) sz [.ref (am 0), .int (x0)]) (QI D (va_A (wM cI cZ am (k) (pat) (dat) (sent) (rc) (los) (wai) (set) (bad) (gon) (rep) (sil) (thr) (na)) sz) (fun z9 (u9 : va_W) => (z9 = nI (k - pc (set (tn x0))) ∧ (0 ≤ x0.toInt ∧ x0.toInt < rc) ∧ u9 = (wM cI cZ am (k) (pat) (dat) (sent) (rc) (los) (wai) (set) (bad) (gon) (rep) (sil) (0) (na))) ∨ (z9 = nI (0) ∧ (¬ (0 ≤ x0.toInt ∧ x0.toInt < rc)) ∧ u9 = (wM cI cZ am (k) (pat) (dat) (sent) (rc) (los) (wai) (set) (bad) (gon) (rep) (sil) (1) (na)))) (fun u9 => u9)) 0 0 (va_A (wM cI cZ am (k) (pat) (dat) (sent) (rc) (los) (wai) (set) (bad) (gon) (rep) (sil) (thr) (na)) sz) := by
  refine Met.ofW (cc := cX4_need) (maxL := 2) (ret := (some .int)) (by decide) rfl ?_
  intro p e s m args below meth c s₁ B hml hv
  obtain ⟨rfl, hsz, hP, hK, hD0, hN⟩ := hv
  have hx := B.exec
  have hb := B.bytes
  have hr := B.returns
  have hts := atoms_spec (ws := wsX4_need) B.pre
  have hown : s.vm.findClass RX4 = some m.cls := findClass_of_methodNamed B.named
  have hlocks := B.notSynchronized
  subst hsz
  have hD := hD0.self (sz := s.heap.size)
  generalize hAe : va_A (wM cI cZ am (k) (pat) (dat) (sent) (rc) (los) (wai) (set) (bad) (gon) (rep) (sil) (thr) (na)) s.heap.size = A at hD ⊢
  have hA : ∀ q : Nat, s.heap.size ≤ q → A q := fun q h => by rw [← hAe]; exact Or.inr h
  have hS : va_S A s.heap s.heap [] := va_S.rf
  have hl := lv_entry ([.ref (am 0), .int (x0)]) (n := 2) (Nat.le_of_ble_eq_true rfl)
  rw [lg_entry_eq]
  generalize (lg_sl ([.ref (am 0), .int (x0)]) ++ List.replicate (2 - (lg_sl ([.ref (am 0), .int (x0)])).length) Slot.unset).toArray = ls at hl ⊢
  have hl : lv_has ls 2 [(0, .ref (am 0)), (1, .int (x0))] := hl
  refine lv_aload_n hx hb dX4_need_0 rfl (lv_at hl 0 rfl) ?_
  refine lv_iload_n hx hb dX4_need_1 rfl (lv_at hl 1 rfl) ?_
  have hPc : va_P D vwCl (wM cI cZ am (k) (pat) (dat) (sent) (rc) (los) (wai) (set) (bad) (gon) (rep) (sil) (thr) (na)) s.heap := hP
  refine q_ci (wc := (wM cI cZ am (k) (pat) (dat) (sent) (rc) (los) (wai) (set) (bad) (gon) (rep) (sil) (thr) (na))) (wr := []) (w1 := fun u9 => u9) (va_runV (As := [.int (x0)]) (rest := []) ⟨hx, hb, hml, hown, hts⟩ (c_X4_asksFor l D cI cZ cQ cL (am) (k) (pat) (dat) (sent) (rc) (los) (wai) (set) (bad) (gon) (rep) (sil) (thr) (na) (x0) s.heap.size (hrc)) (cwV 1 hts gX4_need_X4_asksFor rfl rfl rfl ⟨rfl, hd_X4_asksFor⟩ ⟨Nat.le_of_ble_eq_true rfl, Nat.le_of_ble_eq_true rfl⟩) (PW_v (q := (RX4, TX4, 14)) (ci := 3) (q0 := 0) hPc hK hD hN rfl rfl) rfl rfl hl.1 rfl (lv_room (Nat.le_of_ble_eq_true rfl)) dX4_need_2 ⟨Nat.le_of_ble_eq_true rfl, Nat.le_of_ble_eq_true rfl⟩) hP hD hS hA [0, 1, 2, 3, 4, 5, 6, 7] [] rfl rfl (by decide) (by decide) (fun r_2 u_2 H locs h_2 hP hD hS => ?_)
  rcases h_2 with ⟨rfl, h_2, rfl⟩ | ⟨rfl, h_2, rfl⟩
  · have h_2 : 0 ≤ x0.toInt ∧ x0.toInt < rc := h_2
    have hP : va_P D vwCl (wM cI cZ am (k) (pat) (dat) (sent) (rc) (los) (wai) (set) (bad) (gon) (rep) (sil) (0) (na)) H := hP
    have hD : va_D A (wM cI cZ am (k) (pat) (dat) (sent) (rc) (los) (wai) (set) (bad) (gon) (rep) (sil) (0) (na)) := hD
    refine q_if_eq (u := ((1 : Nat) : Int)) (tgt := 16) hx hb dX4_need_5 (by decide) (nI_toInt (by omega)) (fun c_5 => absurd c_5 (by decide)) (fun _ => ?_)
    have ht_x0 := tn_i (x := x0) (by omega)
    refine lv_aload_n hx hb dX4_need_8 rfl (lv_at hl 0 rfl) ?_
    refine lv_iload_n hx hb dX4_need_9 rfl (lv_at hl 1 rfl) ?_
    refine q_top (show (x0) = nI (tn x0) from tn_I (by omega)) ?_
    have hPc : va_P D vwCl (wM cI cZ am (k) (pat) (dat) (sent) (rc) (los) (wai) (set) (bad) (gon) (rep) (sil) (0) (na)) H := hP
    refine q_csi (va_runV (As := [.int (nI (tn x0))]) (rest := []) ⟨hx, hb, hml, hown, hts⟩ (c_X4_needOf l D cI cZ cQ cL (am) (k) (pat) (dat) (sent) (rc) (los) (wai) (set) (bad) (gon) (rep) (sil) (0) (na) (tn x0) H.size (by omega) (hset) (hbk)) (cwV 1 hts gX4_need_X4_needOf rfl rfl rfl ⟨rfl, hd_X4_needOf⟩ ⟨Nat.le_of_ble_eq_true rfl, Nat.le_of_ble_eq_true rfl⟩) (PW_v (q := (RX4, TX4, 14)) (ci := 3) (q0 := 0) hPc hK hD hN rfl rfl) rfl rfl hl.1 rfl (lv_room (Nat.le_of_ble_eq_true rfl)) dX4_need_10 ⟨Nat.le_of_ble_eq_true rfl, Nat.le_of_ble_eq_true rfl⟩) (fun r_10 hr_10 => ?_)
    obtain rfl : r_10 = nI (k - pc (set (tn x0))) := hr_10
    refine lv_goto (tgt := 17) hx hb dX4_need_13 (by decide) ?_
    exact W.iret (v := nI (k - pc (set (tn x0)))) hx hb hr (fun t ht hW => ⟨⟨_, (wM cI cZ am (k) (pat) (dat) (sent) (rc) (los) (wai) (set) (bad) (gon) (rep) (sil) (0) (na)), rfl, (by first | exact Or.inl ⟨rfl, by omega, rfl⟩ | exact Or.inr (⟨rfl, by omega, rfl⟩)), by rw [ht]; exact hP, hD⟩, hS.F ht⟩) hS.2.2 dX4_need_17
  · have h_2 : ¬ (0 ≤ x0.toInt ∧ x0.toInt < rc) := h_2
    have hP : va_P D vwCl (wM cI cZ am (k) (pat) (dat) (sent) (rc) (los) (wai) (set) (bad) (gon) (rep) (sil) (1) (na)) H := hP
    have hD : va_D A (wM cI cZ am (k) (pat) (dat) (sent) (rc) (los) (wai) (set) (bad) (gon) (rep) (sil) (1) (na)) := hD
    refine q_if_eq (u := ((0 : Nat) : Int)) (tgt := 16) hx hb dX4_need_5 (by decide) (nI_toInt (by omega)) (fun _ => ?_) (fun c_5 => absurd c_5 (by decide))
    refine lv_iconst (v := nI (0)) hx hb dX4_need_16 (by decide) ?_
    exact W.iret (v := nI (0)) hx hb hr (fun t ht hW => ⟨⟨_, (wM cI cZ am (k) (pat) (dat) (sent) (rc) (los) (wai) (set) (bad) (gon) (rep) (sil) (1) (na)), rfl, (by first | exact Or.inl ⟨rfl, by omega, rfl⟩ | exact Or.inr (⟨rfl, by omega, rfl⟩)), by rw [ht]; exact hP, hD⟩, hS.F ht⟩) hS.2.2 dX4_need_17

theorem iwX4_isDropped_X4 : ∀ w ∈ wsX40, w ∈ wsX4_isDropped := by decide +kernel
set_option maxHeartbeats 4000000 in
set_option maxRecDepth 100000 in
theorem c_X4_isDropped (l : Launch) (D : va_G) (cI cZ cQ cL : ClassId) (am : Nat → Nat) (k : Nat) (pat : Nat) (dat : Nat → B8) (sent : Nat) (rc : Nat) (los : Nat → Nat) (wai : Nat → Nat) (set : Nat → Nat) (bad : Nat → Nat) (gon : Nat → Nat) (rep : Nat) (sil : Nat) (thr : Nat) (na : Nat → Nat) (x0 : Int32) (sz : Nat) (hrc : rc ≤ 6) (hgon : ∀ r, r < 6 → gon r ≤ 1) : Met l yX4_isDropped wsX4_isDropped ({ frames := 3, cells := 0, slots := 0, locals := 64 } : Room) (PW D (TY cI cZ cQ cL) (wM cI cZ am (k) (pat) (dat) (sent) (rc) (los) (wai) (set) (bad) (gon) (rep) (sil) (thr) (na)) sz [.ref (am 0), .int (x0)]) (QI D (va_A (wM cI cZ am (k) (pat) (dat) (sent) (rc) (los) (wai) (set) (bad) (gon) (rep) (sil) (thr) (na)) sz) (fun z9 (u9 : va_W) => (z9 = nI (gon (tn x0)) ∧ (0 ≤ x0.toInt ∧ x0.toInt < rc) ∧ u9 = (wM cI cZ am (k) (pat) (dat) (sent) (rc) (los) (wai) (set) (bad) (gon) (rep) (sil) (0) (na))) ∨ (z9 = nI (0) ∧ (¬ (0 ≤ x0.toInt ∧ x0.toInt < rc)) ∧ u9 = (wM cI cZ am (k) (pat) (dat) (sent) (rc) (los) (wai) (set) (bad) (gon) (rep) (sil) (1) (na)))) (fun u9 => u9)) 0 0 (va_A (wM cI cZ am (k) (pat) (dat) (sent) (rc) (los) (wai) (set) (bad) (gon) (rep) (sil) (thr) (na)) sz) := by
  refine Met.ofW (cc := cX4_isDropped) (maxL := 2) (ret := (some .boolean)) (by decide) rfl ?_
  intro p e s m args below meth c s₁ B hml hv
  obtain ⟨rfl, hsz, hP, hK, hD0, hN⟩ := hv
  have hx := B.exec
  have hb := B.bytes
  have hr := B.returns
  have hts := atoms_spec (ws := wsX4_isDropped) B.pre
  have hown : s.vm.findClass RX4 = some m.cls := findClass_of_methodNamed B.named
  have hlocks := B.notSynchronized
  subst hsz
  have hD := hD0.self (sz := s.heap.size)
  generalize hAe : va_A (wM cI cZ am (k) (pat) (dat) (sent) (rc) (los) (wai) (set) (bad) (gon) (rep) (sil) (thr) (na)) s.heap.size = A at hD ⊢
  have hA : ∀ q : Nat, s.heap.size ≤ q → A q := fun q h => by rw [← hAe]; exact Or.inr h
  have hS : va_S A s.heap s.heap [] := va_S.rf
  have hl := lv_entry ([.ref (am 0), .int (x0)]) (n := 2) (Nat.le_of_ble_eq_true rfl)
  rw [lg_entry_eq]
  generalize (lg_sl ([.ref (am 0), .int (x0)]) ++ List.replicate (2 - (lg_sl ([.ref (am 0), .int (x0)])).length) Slot.unset).toArray = ls at hl ⊢
  have hl : lv_has ls 2 [(0, .ref (am 0)), (1, .int (x0))] := hl
  refine lv_aload_n hx hb dX4_isDropped_0 rfl (lv_at hl 0 rfl) ?_
  refine lv_iload_n hx hb dX4_isDropped_1 rfl (lv_at hl 1 rfl) ?_
  have hPc : va_P D vwCl (wM cI cZ am (k) (pat) (dat) (sent) (rc) (los) (wai) (set) (bad) (gon) (rep) (sil) (thr) (na)) s.heap := hP
  refine q_ci (wc := (wM cI cZ am (k) (pat) (dat) (sent) (rc) (los) (wai) (set) (bad) (gon) (rep) (sil) (thr) (na))) (wr := []) (w1 := fun u9 => u9) (va_runV (As := [.int (x0)]) (rest := []) ⟨hx, hb, hml, hown, hts⟩ (c_X4_asksFor l D cI cZ cQ cL (am) (k) (pat) (dat) (sent) (rc) (los) (wai) (set) (bad) (gon) (rep) (sil) (thr) (na) (x0) s.heap.size (hrc)) (cwV 1 hts gX4_isDropped_X4_asksFor rfl rfl rfl ⟨rfl, hd_X4_asksFor⟩ ⟨Nat.le_of_ble_eq_true rfl, Nat.le_of_ble_eq_true rfl⟩) (PW_v (q := (RX4, TX4, 14)) (ci := 3) (q0 := 0) hPc hK hD hN rfl rfl) rfl rfl hl.1 rfl (lv_room (Nat.le_of_ble_eq_true rfl)) dX4_isDropped_2 ⟨Nat.le_of_ble_eq_true rfl, Nat.le_of_ble_eq_true rfl⟩) hP hD hS hA [0, 1, 2, 3, 4, 5, 6, 7] [] rfl rfl (by decide) (by decide) (fun r_2 u_2 H locs h_2 hP hD hS => ?_)
  rcases h_2 with ⟨rfl, h_2, rfl⟩ | ⟨rfl, h_2, rfl⟩
  · have h_2 : 0 ≤ x0.toInt ∧ x0.toInt < rc := h_2
    have hP : va_P D vwCl (wM cI cZ am (k) (pat) (dat) (sent) (rc) (los) (wai) (set) (bad) (gon) (rep) (sil) (0) (na)) H := hP
    have hD : va_D A (wM cI cZ am (k) (pat) (dat) (sent) (rc) (los) (wai) (set) (bad) (gon) (rep) (sil) (0) (na)) := hD
    refine q_if_eq (u := ((1 : Nat) : Int)) (tgt := 21) hx hb dX4_isDropped_5 (by decide) (nI_toInt (by omega)) (fun c_5 => absurd c_5 (by decide)) (fun _ => ?_)
    have ht_x0 := tn_i (x := x0) (by omega)
    have hg6 := hgon (tn x0) (by omega)
    refine lv_aload_n hx hb dX4_isDropped_8 rfl (lv_at hl 0 rfl) ?_
    refine va_get (D := D) (ci := 3) (v := .ref (am 6)) (C := RX4) (T := TX4) (N := 14) hx hb hts iwX4_isDropped_X4 hown hK hP 0 rfl rfl 9 (by decide) (hts (.fieldLink RX4 25 "RepairSenderModel" "isGone" "[Z") (List.mem_of_getElem? (i := 1) rfl)) (fun _ h9 => h9) rfl dX4_isDropped_9 ?_
    refine lv_iload_n hx hb dX4_isDropped_12 rfl (lv_at hl 1 rfl) ?_
    refine q_top (show (x0) = nI (tn x0) from tn_I (by omega)) ?_
    refine q_zald (f := gon) (j := tn x0) hx hb hK hP 6 1 rfl rfl (by omega) (by decide) dX4_isDropped_13 ?_
    refine q_if_eq (u := ((gon (tn x0) : Nat) : Int)) (tgt := 21) hx hb dX4_isDropped_14 (by decide) (nI_toInt (by omega)) (fun c_14 => ?_) (fun c_14 => ?_)
    · have eg : nI 0 = nI (gon (tn x0)) := by rw [show gon (tn x0) = 0 by omega]
      refine lv_iconst (v := nI (0)) hx hb dX4_isDropped_21 (by decide) ?_
      exact W.zret (v := nI (0)) hx hb hr (rfl) (fun t ht hW => ⟨⟨_, (wM cI cZ am (k) (pat) (dat) (sent) (rc) (los) (wai) (set) (bad) (gon) (rep) (sil) (0) (na)), rfl, (by first | exact Or.inl ⟨eg, by omega, rfl⟩ | exact Or.inr ⟨rfl, by omega, rfl⟩), by rw [ht]; exact hP, hD⟩, hS.F ht⟩) hS.2.2 dX4_isDropped_22
    · have eg : nI 1 = nI (gon (tn x0)) := by rw [show gon (tn x0) = 1 by omega]
      refine lv_iconst (v := nI (1)) hx hb dX4_isDropped_17 (by decide) ?_
      refine lv_goto (tgt := 22) hx hb dX4_isDropped_18 (by decide) ?_
      exact W.zret (v := nI (1)) hx hb hr (rfl) (fun t ht hW => ⟨⟨_, (wM cI cZ am (k) (pat) (dat) (sent) (rc) (los) (wai) (set) (bad) (gon) (rep) (sil) (0) (na)), rfl, (by first | exact Or.inl ⟨eg, by omega, rfl⟩ | exact Or.inr ⟨rfl, by omega, rfl⟩), by rw [ht]; exact hP, hD⟩, hS.F ht⟩) hS.2.2 dX4_isDropped_22
  · have h_2 : ¬ (0 ≤ x0.toInt ∧ x0.toInt < rc) := h_2
    have hP : va_P D vwCl (wM cI cZ am (k) (pat) (dat) (sent) (rc) (los) (wai) (set) (bad) (gon) (rep) (sil) (1) (na)) H := hP
    have hD : va_D A (wM cI cZ am (k) (pat) (dat) (sent) (rc) (los) (wai) (set) (bad) (gon) (rep) (sil) (1) (na)) := hD
    refine q_if_eq (u := ((0 : Nat) : Int)) (tgt := 21) hx hb dX4_isDropped_5 (by decide) (nI_toInt (by omega)) (fun _ => ?_) (fun c_5 => absurd c_5 (by decide))
    refine lv_iconst (v := nI (0)) hx hb dX4_isDropped_21 (by decide) ?_
    exact W.zret (v := nI (0)) hx hb hr (rfl) (fun t ht hW => ⟨⟨_, (wM cI cZ am (k) (pat) (dat) (sent) (rc) (los) (wai) (set) (bad) (gon) (rep) (sil) (1) (na)), rfl, (by first | exact Or.inl ⟨eg, by omega, rfl⟩ | exact Or.inr ⟨rfl, by omega, rfl⟩), by rw [ht]; exact hP, hD⟩, hS.F ht⟩) hS.2.2 dX4_isDropped_22
