set_option maxHeartbeats 16000000 in
set_option maxRecDepth 100000 in
theorem law_c13 {p : Program} {l : Launch} {e : Env} {s : State} {m : MethodId} {below : List Frame} {meth : Method} {c : Code} {b L : Nat} {xs : Nat → Int32} {D : va_G} {cI cZ cQ cL : ClassId} {Q : State → Prop} (hfl : l.stackTraces = false) (hL : L ≤ 1536) (hx : p.tables.exec = Jvm.exec) (hb : c.code = cL_law) (hml : c.maxLocals = 7) (hown : s.vm.findClass RL = some m.cls) (hts : ∀ w ∈ wsL_law, w.before #[Value.ref b] s = true) (hXs : va_X b L xs s s.heap) (hbl : b < s.heap.size) (hK : va_K D vwCl (TY cI cZ cQ cL) s) (hN : NK s) (hXK : XK s.heap.size s) {q : Nat} {ad am : Nat → Nat} (i : Nat) (hi : i + 3 ≤ L) (kk : LNX p l e s m below meth c b D cI cZ cQ cL Q q ad am i (100 + (i + 3)) (1000 + 6 * (i + 3)) 1111) : LNX p l e s m below meth c b D cI cZ cQ cL Q q ad am i (100 + i) (1000 + 6 * i) 732 := by
  intro f pat sent rep kept rc los wai set bad gon bk bp bv ck cp cv ek em dat thr na hI H locs hP hD hS ls hl
  have hA : ∀ q : Nat, s.heap.size ≤ q → (fun q : Nat => s.heap.size ≤ q) q := fun _ h => h
  have hbA : ¬ (fun q : Nat => s.heap.size ≤ q) b := Nat.not_le.mpr hbl
  obtain ⟨hrc, hlos, hwai, hset, hbad, hgon, hbk, hpa, hse, hbp, hbv, hlv, hp1⟩ := id hI
  obtain ⟨x0, ex0⟩ : ∃ x0 : Int32, x0 = xs (nI (i + 1)).toNatClampNeg := ⟨_, rfl⟩
  obtain ⟨x1, ex1⟩ : ∃ x1 : Int32, x1 = xs (nI (i + 2)).toNatClampNeg := ⟨_, rfl⟩
  refine lv_aload_n hx hb dL_law_732 rfl (lv_at hl 1 rfl) ?_
  refine lv_aload_n hx hb dL_law_733 rfl (lv_at hl 0 rfl) ?_
  refine lv_iload hx hb dL_law_734 (lv_at hl 4 rfl) ?_
  refine lv_iconst (v := nI (1)) hx hb dL_law_736 (by decide) ?_
  refine lv_iadd hx hb dL_law_737 ?_
  refine q_top (show (nI (i) + nI (1)) = nI (i + 1) from nI_add _ _) ?_
  refine va_sld hx hb hXs hbl hbA hS (vp_in_nI (by omega) (by omega)) dL_law_738 ?_
  refine q_top (show xs (nI (i + 1)).toNatClampNeg = x0 from ex0.symm) ?_
  refine lv_aload_n hx hb dL_law_739 rfl (lv_at hl 3 rfl) ?_
  have hPc : va_P D vwCl (wL cL q f (wA cI cZ ad pat sent rep kept rc los wai set bad gon bk bp bv)) H := jP_l hP
  have hDc : va_D (fun q : Nat => s.heap.size ≤ q) (wL cL q f (wA cI cZ ad pat sent rep kept rc los wai set bad gon bk bp bv)) := jD_l hD
  refine j_ci (wc := (wL cL q f (wA cI cZ ad pat sent rep kept rc los wai set bad gon bk bp bv))) (pl := ((wK cI cQ ad ck cp cv ek em) ++ (wM cI cZ am bk pat dat sent rc los wai set bad gon rep kept thr na))) (w1 := fun u9 => u9) (vx_runSW (As := [.ref (ad 0), .int (x0), .ref (q)]) (rest := []) ⟨hx, hb, hml, hown, hts⟩ (c_L_isDropped l D cI cZ cQ cL hfl s.heap.size q f ad pat sent rep kept rc los wai set bad gon bk bp bv x0 H.size hrc hgon) (vx_cwSW 3 hts gL_law_L_isDropped rfl rfl rfl hd_L_isDropped ⟨Nat.le_of_ble_eq_true rfl, Nat.le_of_ble_eq_true rfl⟩) (PX_s hPc hK hDc hN hXK hS.2.1) rfl rfl hl.1 rfl (lv_room (Nat.le_of_ble_eq_true rfl)) dL_law_740 ⟨by show _ ≤ 601024; omega, by show _ ≤ 7293034; omega⟩) hP hD hS hA (fun r u H locs h hP hD hS => ?_)
  rcases h with ⟨rfl, hc, g, hg, rfl⟩ | ⟨rfl, hc, rfl⟩
  · have hP : va_P D vwCl ((wL cL q g (wA cI cZ ad pat sent rep kept rc los wai set bad gon bk bp bv)) ++ ((wK cI cQ ad ck cp cv ek em) ++ (wM cI cZ am bk pat dat sent rc los wai set bad gon rep kept thr na))) H := hP
    have hD : va_D (fun q : Nat => s.heap.size ≤ q) ((wL cL q g (wA cI cZ ad pat sent rep kept rc los wai set bad gon bk bp bv)) ++ ((wK cI cQ ad ck cp cv ek em) ++ (wM cI cZ am bk pat dat sent rc los wai set bad gon rep kept thr na))) := hD
    refine lv_istore (lv' := [(5, .int (nI (0))), (0, .ref (b)), (1, .ref (ad 0)), (2, .ref (am 0)), (3, .ref (q)), (4, .int (nI (i)))]) hx hb dL_law_743 hl (by decide) rfl (fun ls hl => ?_)
    refine lv_aload_n hx hb dL_law_745 rfl (lv_at hl 3 rfl) ?_
    refine lv_aload_n hx hb dL_law_746 rfl (lv_at hl 1 rfl) ?_
    refine lv_iload hx hb dL_law_747 (lv_at hl 5 rfl) ?_
    refine lv_iconst (v := nI (1)) hx hb dL_law_749 (by decide) ?_
    refine lv_iadd hx hb dL_law_750 ?_
    refine q_top (show (nI (i) + nI (1)) = nI (i + 1) from nI_add _ _) ?_
    refine va_sld hx hb hXs hbl hbA hS (vp_in_nI (by omega) (by omega)) dL_law_751 ?_
    refine q_top (show xs (nI (i + 1)).toNatClampNeg = x0 from ex0.symm) ?_
    have hPc : va_P D vwCl (wM cI cZ am bk pat dat sent rc los wai set bad gon rep kept thr na) H := jP_r (jP_r hP)
    have hDc : va_D (fun q : Nat => s.heap.size ≤ q) (wM cI cZ am bk pat dat sent rc los wai set bad gon rep kept thr na) := jD_r (jD_r hD)
    refine j_ci (wc := (wM cI cZ am bk pat dat sent rc los wai set bad gon rep kept thr na)) (pl := (wL cL q g ((wA cI cZ ad pat sent rep kept rc los wai set bad gon bk bp bv) ++ (wK cI cQ ad ck cp cv ek em)))) (w1 := fun u9 => u9) (va_runV (As := [.int (x0)]) (rest := []) ⟨hx, hb, hml, hown, hts⟩ (c_X4_isDropped l D cI cZ cQ cL am bk pat dat sent rc los wai set bad gon rep kept thr na x0 H.size hrc hgon) (cwV 1 hts gL_law_X4_isDropped rfl rfl rfl ⟨rfl, hd_X4_isDropped⟩ ⟨Nat.le_of_ble_eq_true rfl, Nat.le_of_ble_eq_true rfl⟩) (PW_v (q := (RX4, TX4, 14)) (ci := 3) (q0 := 0) hPc hK hDc hN rfl rfl) rfl rfl hl.1 rfl (lv_room (Nat.le_of_ble_eq_true rfl)) dL_law_752 ⟨by show _ ≤ 601024; omega, by show _ ≤ 7293034; omega⟩) (jP_w (jP_k hP)) (jD_w (jD_k hD)) hS hA (fun r u H locs h hP hD hS => ?_)
    rcases h with ⟨rfl, hm, rfl⟩ | ⟨rfl, hm, rfl⟩
    · have hP : va_P D vwCl ((wL cL q g ((wA cI cZ ad pat sent rep kept rc los wai set bad gon bk bp bv) ++ (wK cI cQ ad ck cp cv ek em))) ++ (wM cI cZ am bk pat dat sent rc los wai set bad gon rep kept 0 na)) H := jP_w hP
      have hD : va_D (fun q : Nat => s.heap.size ≤ q) ((wL cL q g ((wA cI cZ ad pat sent rep kept rc los wai set bad gon bk bp bv) ++ (wK cI cQ ad ck cp cv ek em))) ++ (wM cI cZ am bk pat dat sent rc los wai set bad gon rep kept 0 na)) := jD_w hD
      have hP : va_P D vwCl ((wL cL q g (wA cI cZ ad pat sent rep kept rc los wai set bad gon bk bp bv)) ++ ((wK cI cQ ad ck cp cv ek em) ++ (wM cI cZ am bk pat dat sent rc los wai set bad gon rep kept 0 na))) H := jP_K hP
      have hD : va_D (fun q : Nat => s.heap.size ≤ q) ((wL cL q g (wA cI cZ ad pat sent rep kept rc los wai set bad gon bk bp bv)) ++ ((wK cI cQ ad ck cp cv ek em) ++ (wM cI cZ am bk pat dat sent rc los wai set bad gon rep kept 0 na))) := jD_K hD
      have hg6 : gon (tn x0) ≤ 1 := hgon _ (by have := tn_i (x := x0) (by omega); omega)
      rcases (show gon (tn x0) = 0 ∨ gon (tn x0) = 1 by omega) with h0 | h0
      · rw [h0] at hg
        refine q_top (show nI (gon (tn x0)) = nI (0) from by rw [h0]) ?_
        refine lv_istore (lv' := [(6, .int (nI (0))), (5, .int (nI (0))), (0, .ref (b)), (1, .ref (ad 0)), (2, .ref (am 0)), (3, .ref (q)), (4, .int (nI (i)))]) hx hb dL_law_755 hl (by decide) rfl (fun ls hl => ?_)
        refine lv_aload_n hx hb dL_law_757 rfl (lv_at hl 4 rfl) ?_
        have hPc : va_P D vwCl (wM cI cZ am bk pat dat sent rc los wai set bad gon rep kept 0 na) H := jP_r (jP_r hP)
        have hDc : va_D (fun q : Nat => s.heap.size ≤ q) (wM cI cZ am bk pat dat sent rc los wai set bad gon rep kept 0 na) := jD_r (jD_r hD)
        refine q_csi (va_runV (As := []) (rest := []) ⟨hx, hb, hml, hown, hts⟩ (c_X4_thrown l D cI cZ cQ cL am bk pat dat sent rc los wai set bad gon rep kept 0 na H.size ) (cwV 0 hts gL_law_X4_thrown rfl rfl rfl ⟨rfl, hd_X4_thrown⟩ ⟨Nat.le_of_ble_eq_true rfl, Nat.le_of_ble_eq_true rfl⟩) (PW_v (q := (RX4, TX4, 14)) (ci := 3) (q0 := 0) hPc hK hDc hN rfl rfl) rfl rfl hl.1 rfl (lv_room (Nat.le_of_ble_eq_true rfl)) dL_law_758 ⟨by show _ ≤ 601024; omega, by show _ ≤ 7293034; omega⟩) (fun r_758 hr_758 => ?_)
        obtain rfl : r_758 = nI (0) := hr_758
        refine lv_iload hx hb dL_law_761 (lv_at hl 1 rfl) ?_
        refine q_icmp_eq (u := ((0 : Nat) : Int)) (v := ((0 : Nat) : Int)) (tgt := 768) hx hb dL_law_763 (by decide) (nI_toInt (by omega)) (nI_toInt (by omega)) (fun _ => ?_) (fun c_763 => absurd c_763 (by decide))
        refine lv_iload hx hb dL_law_768 (lv_at hl 1 rfl) ?_
        refine q_if_ne (u := ((0 : Nat) : Int)) (tgt := 792) hx hb dL_law_770 (by decide) (nI_toInt (by omega)) (fun c_770 => absurd c_770 (by decide)) (fun _ => ?_)
        refine lv_aload_n hx hb dL_law_773 rfl (lv_at hl 5 rfl) ?_
        refine lv_iconst (v := nI (0)) hx hb dL_law_774 (by decide) ?_
        refine va_lald (f := g) hx hb hK hP 0 3 rfl rfl (vp_in_nI (by decide) (by decide)) dL_law_775 ?_
        refine q_topl (show g (nI (0)).toNatClampNeg = (nI (0)).toInt64 from hg) ?_
        refine lv_iload hx hb dL_law_776 (lv_at hl 0 rfl) ?_
        refine q_if_eq (u := ((0 : Nat) : Int)) (tgt := 785) hx hb dL_law_778 (by decide) (nI_toInt (by omega)) (fun _ => ?_) (fun c_778 => absurd c_778 (by decide))
        refine lv_lconst (v := (nI (0)).toInt64) hx hb dL_law_785 (by decide) ?_
        refine W.lcmp hx hb dL_law_786 ?_
        refine q_top (show _ = nI (0) from (lg_cmp_eq _ _).mpr rfl) ?_
        refine q_if_eq (u := ((0 : Nat) : Int)) (tgt := 792) hx hb dL_law_787 (by decide) (nI_toInt (by omega)) (fun _ => ?_) (fun c_787 => absurd c_787 (by decide))
        refine lv_goto (tgt := 1111) hx hb dL_law_792 (by decide) ?_
        refine W.widen (k := 100 + (i + 3)) (n := 1000 + 6 * (i + 3)) (by omega) (by omega) ?_
        exact kk g pat sent rep kept rc los wai set bad gon bk bp bv ck cp cv ek em dat 0 na hI H locs hP hD hS ls (lv_sub hl [2, 3, 4, 5, 6] rfl)
      · rw [h0] at hg
        refine q_top (show nI (gon (tn x0)) = nI (1) from by rw [h0]) ?_
        refine lv_istore (lv' := [(6, .int (nI (1))), (5, .int (nI (0))), (0, .ref (b)), (1, .ref (ad 0)), (2, .ref (am 0)), (3, .ref (q)), (4, .int (nI (i)))]) hx hb dL_law_755 hl (by decide) rfl (fun ls hl => ?_)
        refine lv_aload_n hx hb dL_law_757 rfl (lv_at hl 4 rfl) ?_
        have hPc : va_P D vwCl (wM cI cZ am bk pat dat sent rc los wai set bad gon rep kept 0 na) H := jP_r (jP_r hP)
        have hDc : va_D (fun q : Nat => s.heap.size ≤ q) (wM cI cZ am bk pat dat sent rc los wai set bad gon rep kept 0 na) := jD_r (jD_r hD)
        refine q_csi (va_runV (As := []) (rest := []) ⟨hx, hb, hml, hown, hts⟩ (c_X4_thrown l D cI cZ cQ cL am bk pat dat sent rc los wai set bad gon rep kept 0 na H.size ) (cwV 0 hts gL_law_X4_thrown rfl rfl rfl ⟨rfl, hd_X4_thrown⟩ ⟨Nat.le_of_ble_eq_true rfl, Nat.le_of_ble_eq_true rfl⟩) (PW_v (q := (RX4, TX4, 14)) (ci := 3) (q0 := 0) hPc hK hDc hN rfl rfl) rfl rfl hl.1 rfl (lv_room (Nat.le_of_ble_eq_true rfl)) dL_law_758 ⟨by show _ ≤ 601024; omega, by show _ ≤ 7293034; omega⟩) (fun r_758 hr_758 => ?_)
        obtain rfl : r_758 = nI (0) := hr_758
        refine lv_iload hx hb dL_law_761 (lv_at hl 1 rfl) ?_
        refine q_icmp_eq (u := ((0 : Nat) : Int)) (v := ((0 : Nat) : Int)) (tgt := 768) hx hb dL_law_763 (by decide) (nI_toInt (by omega)) (nI_toInt (by omega)) (fun _ => ?_) (fun c_763 => absurd c_763 (by decide))
        refine lv_iload hx hb dL_law_768 (lv_at hl 1 rfl) ?_
        refine q_if_ne (u := ((0 : Nat) : Int)) (tgt := 792) hx hb dL_law_770 (by decide) (nI_toInt (by omega)) (fun c_770 => absurd c_770 (by decide)) (fun _ => ?_)
        refine lv_aload_n hx hb dL_law_773 rfl (lv_at hl 5 rfl) ?_
        refine lv_iconst (v := nI (0)) hx hb dL_law_774 (by decide) ?_
        refine va_lald (f := g) hx hb hK hP 0 3 rfl rfl (vp_in_nI (by decide) (by decide)) dL_law_775 ?_
        refine q_topl (show g (nI (0)).toNatClampNeg = (nI (1)).toInt64 from hg) ?_
        refine lv_iload hx hb dL_law_776 (lv_at hl 0 rfl) ?_
        refine q_if_eq (u := ((1 : Nat) : Int)) (tgt := 785) hx hb dL_law_778 (by decide) (nI_toInt (by omega)) (fun c_778 => absurd c_778 (by decide)) (fun _ => ?_)
        refine lv_lconst (v := (nI (1)).toInt64) hx hb dL_law_781 (by decide) ?_
        refine lv_goto (tgt := 786) hx hb dL_law_782 (by decide) ?_
        refine W.lcmp hx hb dL_law_786 ?_
        refine q_top (show _ = nI (0) from (lg_cmp_eq _ _).mpr rfl) ?_
        refine q_if_eq (u := ((0 : Nat) : Int)) (tgt := 792) hx hb dL_law_787 (by decide) (nI_toInt (by omega)) (fun _ => ?_) (fun c_787 => absurd c_787 (by decide))
        refine lv_goto (tgt := 1111) hx hb dL_law_792 (by decide) ?_
        refine W.widen (k := 100 + (i + 3)) (n := 1000 + 6 * (i + 3)) (by omega) (by omega) ?_
        exact kk g pat sent rep kept rc los wai set bad gon bk bp bv ck cp cv ek em dat 0 na hI H locs hP hD hS ls (lv_sub hl [2, 3, 4, 5, 6] rfl)
    · exfalso; omega
  · have hP : va_P D vwCl ((wL cL q f (wA cI cZ ad pat sent rep kept rc los wai set bad gon bk bp bv)) ++ ((wK cI cQ ad ck cp cv ek em) ++ (wM cI cZ am bk pat dat sent rc los wai set bad gon rep kept thr na))) H := hP
    have hD : va_D (fun q : Nat => s.heap.size ≤ q) ((wL cL q f (wA cI cZ ad pat sent rep kept rc los wai set bad gon bk bp bv)) ++ ((wK cI cQ ad ck cp cv ek em) ++ (wM cI cZ am bk pat dat sent rc los wai set bad gon rep kept thr na))) := hD
    refine lv_istore (lv' := [(5, .int (nI (1))), (0, .ref (b)), (1, .ref (ad 0)), (2, .ref (am 0)), (3, .ref (q)), (4, .int (nI (i)))]) hx hb dL_law_743 hl (by decide) rfl (fun ls hl => ?_)
    refine lv_aload_n hx hb dL_law_745 rfl (lv_at hl 3 rfl) ?_
    refine lv_aload_n hx hb dL_law_746 rfl (lv_at hl 1 rfl) ?_
    refine lv_iload hx hb dL_law_747 (lv_at hl 5 rfl) ?_
    refine lv_iconst (v := nI (1)) hx hb dL_law_749 (by decide) ?_
    refine lv_iadd hx hb dL_law_750 ?_
    refine q_top (show (nI (i) + nI (1)) = nI (i + 1) from nI_add _ _) ?_
    refine va_sld hx hb hXs hbl hbA hS (vp_in_nI (by omega) (by omega)) dL_law_751 ?_
    refine q_top (show xs (nI (i + 1)).toNatClampNeg = x0 from ex0.symm) ?_
    have hPc : va_P D vwCl (wM cI cZ am bk pat dat sent rc los wai set bad gon rep kept thr na) H := jP_r (jP_r hP)
    have hDc : va_D (fun q : Nat => s.heap.size ≤ q) (wM cI cZ am bk pat dat sent rc los wai set bad gon rep kept thr na) := jD_r (jD_r hD)
    refine j_ci (wc := (wM cI cZ am bk pat dat sent rc los wai set bad gon rep kept thr na)) (pl := (wL cL q f ((wA cI cZ ad pat sent rep kept rc los wai set bad gon bk bp bv) ++ (wK cI cQ ad ck cp cv ek em)))) (w1 := fun u9 => u9) (va_runV (As := [.int (x0)]) (rest := []) ⟨hx, hb, hml, hown, hts⟩ (c_X4_isDropped l D cI cZ cQ cL am bk pat dat sent rc los wai set bad gon rep kept thr na x0 H.size hrc hgon) (cwV 1 hts gL_law_X4_isDropped rfl rfl rfl ⟨rfl, hd_X4_isDropped⟩ ⟨Nat.le_of_ble_eq_true rfl, Nat.le_of_ble_eq_true rfl⟩) (PW_v (q := (RX4, TX4, 14)) (ci := 3) (q0 := 0) hPc hK hDc hN rfl rfl) rfl rfl hl.1 rfl (lv_room (Nat.le_of_ble_eq_true rfl)) dL_law_752 ⟨by show _ ≤ 601024; omega, by show _ ≤ 7293034; omega⟩) (jP_w (jP_k hP)) (jD_w (jD_k hD)) hS hA (fun r u H locs h hP hD hS => ?_)
    rcases h with ⟨rfl, hm, rfl⟩ | ⟨rfl, hm, rfl⟩
    · exfalso; omega
    · have hP : va_P D vwCl ((wL cL q f ((wA cI cZ ad pat sent rep kept rc los wai set bad gon bk bp bv) ++ (wK cI cQ ad ck cp cv ek em))) ++ (wM cI cZ am bk pat dat sent rc los wai set bad gon rep kept 1 na)) H := jP_w hP
      have hD : va_D (fun q : Nat => s.heap.size ≤ q) ((wL cL q f ((wA cI cZ ad pat sent rep kept rc los wai set bad gon bk bp bv) ++ (wK cI cQ ad ck cp cv ek em))) ++ (wM cI cZ am bk pat dat sent rc los wai set bad gon rep kept 1 na)) := jD_w hD
      have hP : va_P D vwCl ((wL cL q f (wA cI cZ ad pat sent rep kept rc los wai set bad gon bk bp bv)) ++ ((wK cI cQ ad ck cp cv ek em) ++ (wM cI cZ am bk pat dat sent rc los wai set bad gon rep kept 1 na))) H := jP_K hP
      have hD : va_D (fun q : Nat => s.heap.size ≤ q) ((wL cL q f (wA cI cZ ad pat sent rep kept rc los wai set bad gon bk bp bv)) ++ ((wK cI cQ ad ck cp cv ek em) ++ (wM cI cZ am bk pat dat sent rc los wai set bad gon rep kept 1 na))) := jD_K hD
      refine lv_istore (lv' := [(6, .int (nI (0))), (5, .int (nI (1))), (0, .ref (b)), (1, .ref (ad 0)), (2, .ref (am 0)), (3, .ref (q)), (4, .int (nI (i)))]) hx hb dL_law_755 hl (by decide) rfl (fun ls hl => ?_)
      refine lv_aload_n hx hb dL_law_757 rfl (lv_at hl 4 rfl) ?_
      have hPc : va_P D vwCl (wM cI cZ am bk pat dat sent rc los wai set bad gon rep kept 1 na) H := jP_r (jP_r hP)
      have hDc : va_D (fun q : Nat => s.heap.size ≤ q) (wM cI cZ am bk pat dat sent rc los wai set bad gon rep kept 1 na) := jD_r (jD_r hD)
      refine q_csi (va_runV (As := []) (rest := []) ⟨hx, hb, hml, hown, hts⟩ (c_X4_thrown l D cI cZ cQ cL am bk pat dat sent rc los wai set bad gon rep kept 1 na H.size ) (cwV 0 hts gL_law_X4_thrown rfl rfl rfl ⟨rfl, hd_X4_thrown⟩ ⟨Nat.le_of_ble_eq_true rfl, Nat.le_of_ble_eq_true rfl⟩) (PW_v (q := (RX4, TX4, 14)) (ci := 3) (q0 := 0) hPc hK hDc hN rfl rfl) rfl rfl hl.1 rfl (lv_room (Nat.le_of_ble_eq_true rfl)) dL_law_758 ⟨by show _ ≤ 601024; omega, by show _ ≤ 7293034; omega⟩) (fun r_758 hr_758 => ?_)
      obtain rfl : r_758 = nI (1) := hr_758
      refine lv_iload hx hb dL_law_761 (lv_at hl 1 rfl) ?_
      refine q_icmp_eq (u := ((1 : Nat) : Int)) (v := ((1 : Nat) : Int)) (tgt := 768) hx hb dL_law_763 (by decide) (nI_toInt (by omega)) (nI_toInt (by omega)) (fun _ => ?_) (fun c_763 => absurd c_763 (by decide))
      refine lv_iload hx hb dL_law_768 (lv_at hl 1 rfl) ?_
      refine q_if_ne (u := ((1 : Nat) : Int)) (tgt := 792) hx hb dL_law_770 (by decide) (nI_toInt (by omega)) (fun _ => ?_) (fun c_770 => absurd c_770 (by decide))
      refine lv_goto (tgt := 1111) hx hb dL_law_792 (by decide) ?_
      refine W.widen (k := 100 + (i + 3)) (n := 1000 + 6 * (i + 3)) (by omega) (by omega) ?_
      exact kk f pat sent rep kept rc los wai set bad gon bk bp bv ck cp cv ek em dat 1 na hI H locs hP hD hS ls (lv_sub hl [2, 3, 4, 5, 6] rfl)
