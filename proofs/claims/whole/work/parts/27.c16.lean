set_option maxHeartbeats 16000000 in
set_option maxRecDepth 100000 in
theorem law_c16 {p : Program} {l : Launch} {e : Env} {s : State} {m : MethodId} {below : List Frame} {meth : Method} {c : Code} {b L : Nat} {xs : Nat → Int32} {D : va_G} {cI cZ cQ cL : ClassId} {Q : State → Prop} (hfl : l.stackTraces = false) (hL : L ≤ 1536) (hx : p.tables.exec = Jvm.exec) (hb : c.code = cL_law) (hml : c.maxLocals = 7) (hown : s.vm.findClass RL = some m.cls) (hts : ∀ w ∈ wsL_law, w.before #[Value.ref b] s = true) (hXs : va_X b L xs s s.heap) (hbl : b < s.heap.size) (hK : va_K D vwCl (TY cI cZ cQ cL) s) (hN : NK s) (hXK : XK s.heap.size s) {q : Nat} {ad am : Nat → Nat} (i : Nat) (hi : i + 3 ≤ L) (kk : LNX p l e s m below meth c b D cI cZ cQ cL Q q ad am i (100 + (i + 3)) (1000 + 6 * (i + 3)) 1111) : LNX p l e s m below meth c b D cI cZ cQ cL Q q ad am i (100 + i) (1000 + 6 * i) 919 := by
  intro f pat sent rep kept rc los wai set bad gon bk bp bv ck cp cv ek em dat thr na hI H locs hP hD hS ls hl
  have hA : ∀ q : Nat, s.heap.size ≤ q → (fun q : Nat => s.heap.size ≤ q) q := fun _ h => h
  have hbA : ¬ (fun q : Nat => s.heap.size ≤ q) b := Nat.not_le.mpr hbl
  obtain ⟨hrc, hlos, hwai, hset, hbad, hgon, hbk, hpa, hse, hbp, hbv, hlv, hp1⟩ := id hI
  obtain ⟨x0, ex0⟩ : ∃ x0 : Int32, x0 = xs (nI (i + 1)).toNatClampNeg := ⟨_, rfl⟩
  obtain ⟨x1, ex1⟩ : ∃ x1 : Int32, x1 = xs (nI (i + 2)).toNatClampNeg := ⟨_, rfl⟩
  refine lv_aload_n hx hb dL_law_919 rfl (lv_at hl 1 rfl) ?_
  refine lv_aload_n hx hb dL_law_920 rfl (lv_at hl 0 rfl) ?_
  refine lv_iload hx hb dL_law_921 (lv_at hl 4 rfl) ?_
  refine lv_iconst (v := nI (1)) hx hb dL_law_923 (by decide) ?_
  refine lv_iadd hx hb dL_law_924 ?_
  refine q_top (show (nI (i) + nI (1)) = nI (i + 1) from nI_add _ _) ?_
  refine va_sld hx hb hXs hbl hbA hS (vp_in_nI (by omega) (by omega)) dL_law_925 ?_
  refine q_top (show xs (nI (i + 1)).toNatClampNeg = x0 from ex0.symm) ?_
  refine lv_aload_n hx hb dL_law_926 rfl (lv_at hl 3 rfl) ?_
  have hPc : va_P D vwCl (wL cL q f (wA cI cZ ad pat sent rep kept rc los wai set bad gon bk bp bv)) H := jP_l hP
  have hDc : va_D (fun q : Nat => s.heap.size ≤ q) (wL cL q f (wA cI cZ ad pat sent rep kept rc los wai set bad gon bk bp bv)) := jD_l hD
  refine j_ci (wc := (wL cL q f (wA cI cZ ad pat sent rep kept rc los wai set bad gon bk bp bv))) (pl := ((wK cI cQ ad ck cp cv ek em) ++ (wM cI cZ am bk pat dat sent rc los wai set bad gon rep kept thr na))) (w1 := fun u9 => u9) (vx_runSW (As := [.ref (ad 0), .int (x0), .ref (q)]) (rest := []) ⟨hx, hb, hml, hown, hts⟩ (c_L_packet l D cI cZ cQ cL hfl s.heap.size q f ad pat sent rep kept rc los wai set bad gon bk bp bv x0 H.size hbk) (vx_cwSW 3 hts gL_law_L_packet rfl rfl rfl hd_L_packet ⟨Nat.le_of_ble_eq_true rfl, Nat.le_of_ble_eq_true rfl⟩) (PX_s hPc hK hDc hN hXK hS.2.1) rfl rfl hl.1 rfl (lv_room (Nat.le_of_ble_eq_true rfl)) dL_law_927 ⟨by show _ ≤ 601024; omega, by show _ ≤ 7293034; omega⟩) hP hD hS hA (fun r u H locs h hP hD hS => ?_)
  rcases h with ⟨rfl, hc, g, hg, rfl⟩ | ⟨rfl, hc, rfl⟩
  · have hP : va_P D vwCl ((wL cL q g (wA cI cZ ad pat sent rep kept rc los wai set bad gon bk bp bv)) ++ ((wK cI cQ ad ck cp cv ek em) ++ (wM cI cZ am bk pat dat sent rc los wai set bad gon rep kept thr na))) H := hP
    have hD : va_D (fun q : Nat => s.heap.size ≤ q) ((wL cL q g (wA cI cZ ad pat sent rep kept rc los wai set bad gon bk bp bv)) ++ ((wK cI cQ ad ck cp cv ek em) ++ (wM cI cZ am bk pat dat sent rc los wai set bad gon rep kept thr na))) := hD
    refine lv_istore (lv' := [(5, .int (nI (0))), (0, .ref (b)), (1, .ref (ad 0)), (2, .ref (am 0)), (3, .ref (q)), (4, .int (nI (i)))]) hx hb dL_law_930 hl (by decide) rfl (fun ls hl => ?_)
    refine lv_aload_n hx hb dL_law_932 rfl (lv_at hl 3 rfl) ?_
    refine lv_aload_n hx hb dL_law_933 rfl (lv_at hl 1 rfl) ?_
    refine lv_iload hx hb dL_law_934 (lv_at hl 5 rfl) ?_
    refine lv_iconst (v := nI (1)) hx hb dL_law_936 (by decide) ?_
    refine lv_iadd hx hb dL_law_937 ?_
    refine q_top (show (nI (i) + nI (1)) = nI (i + 1) from nI_add _ _) ?_
    refine va_sld hx hb hXs hbl hbA hS (vp_in_nI (by omega) (by omega)) dL_law_938 ?_
    refine q_top (show xs (nI (i + 1)).toNatClampNeg = x0 from ex0.symm) ?_
    have hPc : va_P D vwCl (wM cI cZ am bk pat dat sent rc los wai set bad gon rep kept thr na) H := jP_r (jP_r hP)
    have hDc : va_D (fun q : Nat => s.heap.size ≤ q) (wM cI cZ am bk pat dat sent rc los wai set bad gon rep kept thr na) := jD_r (jD_r hD)
    refine j_ci (wc := (wM cI cZ am bk pat dat sent rc los wai set bad gon rep kept thr na)) (pl := (wL cL q g ((wA cI cZ ad pat sent rep kept rc los wai set bad gon bk bp bv) ++ (wK cI cQ ad ck cp cv ek em)))) (w1 := fun u9 => u9) (va_runV (As := [.int (x0)]) (rest := []) ⟨hx, hb, hml, hown, hts⟩ (c_X4_packet l D cI cZ cQ cL am bk pat dat sent rc los wai set bad gon rep kept thr na x0 H.size hbk) (cwV 1 hts gL_law_X4_packet rfl rfl rfl ⟨rfl, hd_X4_packet⟩ ⟨Nat.le_of_ble_eq_true rfl, Nat.le_of_ble_eq_true rfl⟩) (PW_v (q := (RX4, TX4, 14)) (ci := 3) (q0 := 0) hPc hK hDc hN rfl rfl) rfl rfl hl.1 rfl (lv_room (Nat.le_of_ble_eq_true rfl)) dL_law_939 ⟨by show _ ≤ 601024; omega, by show _ ≤ 7293034; omega⟩) (jP_w (jP_k hP)) (jD_w (jD_k hD)) hS hA (fun r u H locs h hP hD hS => ?_)
    rcases h with ⟨rfl, hm, rfl⟩ | ⟨rfl, hm, rfl⟩ | ⟨rfl, hm, rfl⟩
    · have hP : va_P D vwCl ((wL cL q g ((wA cI cZ ad pat sent rep kept rc los wai set bad gon bk bp bv) ++ (wK cI cQ ad ck cp cv ek em))) ++ (wM cI cZ am bk pat dat sent rc los wai set bad gon rep kept 0 na)) H := jP_w hP
      have hD : va_D (fun q : Nat => s.heap.size ≤ q) ((wL cL q g ((wA cI cZ ad pat sent rep kept rc los wai set bad gon bk bp bv) ++ (wK cI cQ ad ck cp cv ek em))) ++ (wM cI cZ am bk pat dat sent rc los wai set bad gon rep kept 0 na)) := jD_w hD
      have hP : va_P D vwCl ((wL cL q g (wA cI cZ ad pat sent rep kept rc los wai set bad gon bk bp bv)) ++ ((wK cI cQ ad ck cp cv ek em) ++ (wM cI cZ am bk pat dat sent rc los wai set bad gon rep kept 0 na))) H := jP_K hP
      have hD : va_D (fun q : Nat => s.heap.size ≤ q) ((wL cL q g (wA cI cZ ad pat sent rep kept rc los wai set bad gon bk bp bv)) ++ ((wK cI cQ ad ck cp cv ek em) ++ (wM cI cZ am bk pat dat sent rc los wai set bad gon rep kept 0 na))) := jD_K hD
      refine q_top (show bI (dat (tn x0)) = bI (lag bk bp bv (BitVec.ofNat 8 (tn x0))) from by rw [lag_congr (p := bp) (v := bv) (p' := fun j => BitVec.ofNat 8 j) (v' := dat) hbp hbv, lag_packet hbk, if_pos (show tn x0 < bk from by have := tn_i (x := x0) (by omega); omega)]) ?_
      refine lv_istore (lv' := [(6, .int (bI (lag bk bp bv (BitVec.ofNat 8 (tn x0))))), (5, .int (nI (0))), (0, .ref (b)), (1, .ref (ad 0)), (2, .ref (am 0)), (3, .ref (q)), (4, .int (nI (i)))]) hx hb dL_law_942 hl (by decide) rfl (fun ls hl => ?_)
      refine lv_aload_n hx hb dL_law_944 rfl (lv_at hl 4 rfl) ?_
      have hPc : va_P D vwCl (wM cI cZ am bk pat dat sent rc los wai set bad gon rep kept 0 na) H := jP_r (jP_r hP)
      have hDc : va_D (fun q : Nat => s.heap.size ≤ q) (wM cI cZ am bk pat dat sent rc los wai set bad gon rep kept 0 na) := jD_r (jD_r hD)
      refine q_csi (va_runV (As := []) (rest := []) ⟨hx, hb, hml, hown, hts⟩ (c_X4_thrown l D cI cZ cQ cL am bk pat dat sent rc los wai set bad gon rep kept 0 na H.size ) (cwV 0 hts gL_law_X4_thrown rfl rfl rfl ⟨rfl, hd_X4_thrown⟩ ⟨Nat.le_of_ble_eq_true rfl, Nat.le_of_ble_eq_true rfl⟩) (PW_v (q := (RX4, TX4, 14)) (ci := 3) (q0 := 0) hPc hK hDc hN rfl rfl) rfl rfl hl.1 rfl (lv_room (Nat.le_of_ble_eq_true rfl)) dL_law_945 ⟨by show _ ≤ 601024; omega, by show _ ≤ 7293034; omega⟩) (fun r_945 hr_945 => ?_)
      obtain rfl : r_945 = nI (0) := hr_945
      refine lv_iload hx hb dL_law_948 (lv_at hl 1 rfl) ?_
      refine q_icmp_eq (u := ((0 : Nat) : Int)) (v := ((0 : Nat) : Int)) (tgt := 955) hx hb dL_law_950 (by decide) (nI_toInt (by omega)) (nI_toInt (by omega)) (fun _ => ?_) (fun c_950 => absurd c_950 (by decide))
      refine lv_iload hx hb dL_law_955 (lv_at hl 1 rfl) ?_
      refine q_if_ne (u := ((0 : Nat) : Int)) (tgt := 972) hx hb dL_law_957 (by decide) (nI_toInt (by omega)) (fun c_957 => absurd c_957 (by decide)) (fun _ => ?_)
      refine lv_aload_n hx hb dL_law_960 rfl (lv_at hl 5 rfl) ?_
      refine lv_iconst (v := nI (0)) hx hb dL_law_961 (by decide) ?_
      refine va_lald (f := g) hx hb hK hP 0 3 rfl rfl (vp_in_nI (by decide) (by decide)) dL_law_962 ?_
      refine q_topl (show g (nI (0)).toNatClampNeg = (bI (lag bk bp bv (BitVec.ofNat 8 (tn x0)))).toInt64 from hg) ?_
      refine lv_iload hx hb dL_law_963 (lv_at hl 0 rfl) ?_
      refine lv_i2l (v := ((bI (lag bk bp bv (BitVec.ofNat 8 (tn x0))))).toInt64) hx hb dL_law_965 rfl ?_
      refine W.lcmp hx hb dL_law_966 ?_
      refine q_top (show _ = nI (0) from (lg_cmp_eq _ _).mpr rfl) ?_
      refine q_if_eq (u := ((0 : Nat) : Int)) (tgt := 972) hx hb dL_law_967 (by decide) (nI_toInt (by omega)) (fun _ => ?_) (fun c_967 => absurd c_967 (by decide))
      refine lv_goto (tgt := 1111) hx hb dL_law_972 (by decide) ?_
      refine W.widen (k := 100 + (i + 3)) (n := 1000 + 6 * (i + 3)) (by omega) (by omega) ?_
      exact kk g pat sent rep kept rc los wai set bad gon bk bp bv ck cp cv ek em dat 0 na hI H locs hP hD hS ls (lv_sub hl [2, 3, 4, 5, 6] rfl)
    · have hP : va_P D vwCl ((wL cL q g ((wA cI cZ ad pat sent rep kept rc los wai set bad gon bk bp bv) ++ (wK cI cQ ad ck cp cv ek em))) ++ (wM cI cZ am bk pat dat sent rc los wai set bad gon rep kept 0 na)) H := jP_w hP
      have hD : va_D (fun q : Nat => s.heap.size ≤ q) ((wL cL q g ((wA cI cZ ad pat sent rep kept rc los wai set bad gon bk bp bv) ++ (wK cI cQ ad ck cp cv ek em))) ++ (wM cI cZ am bk pat dat sent rc los wai set bad gon rep kept 0 na)) := jD_w hD
      have hP : va_P D vwCl ((wL cL q g (wA cI cZ ad pat sent rep kept rc los wai set bad gon bk bp bv)) ++ ((wK cI cQ ad ck cp cv ek em) ++ (wM cI cZ am bk pat dat sent rc los wai set bad gon rep kept 0 na))) H := jP_K hP
      have hD : va_D (fun q : Nat => s.heap.size ≤ q) ((wL cL q g (wA cI cZ ad pat sent rep kept rc los wai set bad gon bk bp bv)) ++ ((wK cI cQ ad ck cp cv ek em) ++ (wM cI cZ am bk pat dat sent rc los wai set bad gon rep kept 0 na))) := jD_K hD
      refine q_top (show bI (lagM bk dat (BitVec.ofNat 8 (tn x0))) = bI (lag bk bp bv (BitVec.ofNat 8 (tn x0))) from by rw [lag_congr (p := bp) (v := bv) (p' := fun j => BitVec.ofNat 8 j) (v' := dat) hbp hbv, lag_packet hbk, if_neg (show ¬ tn x0 < bk from by have := tn_i (x := x0) (by omega); omega)]) ?_
      refine lv_istore (lv' := [(6, .int (bI (lag bk bp bv (BitVec.ofNat 8 (tn x0))))), (5, .int (nI (0))), (0, .ref (b)), (1, .ref (ad 0)), (2, .ref (am 0)), (3, .ref (q)), (4, .int (nI (i)))]) hx hb dL_law_942 hl (by decide) rfl (fun ls hl => ?_)
      refine lv_aload_n hx hb dL_law_944 rfl (lv_at hl 4 rfl) ?_
      have hPc : va_P D vwCl (wM cI cZ am bk pat dat sent rc los wai set bad gon rep kept 0 na) H := jP_r (jP_r hP)
      have hDc : va_D (fun q : Nat => s.heap.size ≤ q) (wM cI cZ am bk pat dat sent rc los wai set bad gon rep kept 0 na) := jD_r (jD_r hD)
      refine q_csi (va_runV (As := []) (rest := []) ⟨hx, hb, hml, hown, hts⟩ (c_X4_thrown l D cI cZ cQ cL am bk pat dat sent rc los wai set bad gon rep kept 0 na H.size ) (cwV 0 hts gL_law_X4_thrown rfl rfl rfl ⟨rfl, hd_X4_thrown⟩ ⟨Nat.le_of_ble_eq_true rfl, Nat.le_of_ble_eq_true rfl⟩) (PW_v (q := (RX4, TX4, 14)) (ci := 3) (q0 := 0) hPc hK hDc hN rfl rfl) rfl rfl hl.1 rfl (lv_room (Nat.le_of_ble_eq_true rfl)) dL_law_945 ⟨by show _ ≤ 601024; omega, by show _ ≤ 7293034; omega⟩) (fun r_945 hr_945 => ?_)
      obtain rfl : r_945 = nI (0) := hr_945
      refine lv_iload hx hb dL_law_948 (lv_at hl 1 rfl) ?_
      refine q_icmp_eq (u := ((0 : Nat) : Int)) (v := ((0 : Nat) : Int)) (tgt := 955) hx hb dL_law_950 (by decide) (nI_toInt (by omega)) (nI_toInt (by omega)) (fun _ => ?_) (fun c_950 => absurd c_950 (by decide))
      refine lv_iload hx hb dL_law_955 (lv_at hl 1 rfl) ?_
      refine q_if_ne (u := ((0 : Nat) : Int)) (tgt := 972) hx hb dL_law_957 (by decide) (nI_toInt (by omega)) (fun c_957 => absurd c_957 (by decide)) (fun _ => ?_)
      refine lv_aload_n hx hb dL_law_960 rfl (lv_at hl 5 rfl) ?_
      refine lv_iconst (v := nI (0)) hx hb dL_law_961 (by decide) ?_
      refine va_lald (f := g) hx hb hK hP 0 3 rfl rfl (vp_in_nI (by decide) (by decide)) dL_law_962 ?_
      refine q_topl (show g (nI (0)).toNatClampNeg = (bI (lag bk bp bv (BitVec.ofNat 8 (tn x0)))).toInt64 from hg) ?_
      refine lv_iload hx hb dL_law_963 (lv_at hl 0 rfl) ?_
      refine lv_i2l (v := ((bI (lag bk bp bv (BitVec.ofNat 8 (tn x0))))).toInt64) hx hb dL_law_965 rfl ?_
      refine W.lcmp hx hb dL_law_966 ?_
      refine q_top (show _ = nI (0) from (lg_cmp_eq _ _).mpr rfl) ?_
      refine q_if_eq (u := ((0 : Nat) : Int)) (tgt := 972) hx hb dL_law_967 (by decide) (nI_toInt (by omega)) (fun _ => ?_) (fun c_967 => absurd c_967 (by decide))
      refine lv_goto (tgt := 1111) hx hb dL_law_972 (by decide) ?_
      refine W.widen (k := 100 + (i + 3)) (n := 1000 + 6 * (i + 3)) (by omega) (by omega) ?_
      exact kk g pat sent rep kept rc los wai set bad gon bk bp bv ck cp cv ek em dat 0 na hI H locs hP hD hS ls (lv_sub hl [2, 3, 4, 5, 6] rfl)
    · exfalso; omega
  · have hP : va_P D vwCl ((wL cL q f (wA cI cZ ad pat sent rep kept rc los wai set bad gon bk bp bv)) ++ ((wK cI cQ ad ck cp cv ek em) ++ (wM cI cZ am bk pat dat sent rc los wai set bad gon rep kept thr na))) H := hP
    have hD : va_D (fun q : Nat => s.heap.size ≤ q) ((wL cL q f (wA cI cZ ad pat sent rep kept rc los wai set bad gon bk bp bv)) ++ ((wK cI cQ ad ck cp cv ek em) ++ (wM cI cZ am bk pat dat sent rc los wai set bad gon rep kept thr na))) := hD
    refine lv_istore (lv' := [(5, .int (nI (1))), (0, .ref (b)), (1, .ref (ad 0)), (2, .ref (am 0)), (3, .ref (q)), (4, .int (nI (i)))]) hx hb dL_law_930 hl (by decide) rfl (fun ls hl => ?_)
    refine lv_aload_n hx hb dL_law_932 rfl (lv_at hl 3 rfl) ?_
    refine lv_aload_n hx hb dL_law_933 rfl (lv_at hl 1 rfl) ?_
    refine lv_iload hx hb dL_law_934 (lv_at hl 5 rfl) ?_
    refine lv_iconst (v := nI (1)) hx hb dL_law_936 (by decide) ?_
    refine lv_iadd hx hb dL_law_937 ?_
    refine q_top (show (nI (i) + nI (1)) = nI (i + 1) from nI_add _ _) ?_
    refine va_sld hx hb hXs hbl hbA hS (vp_in_nI (by omega) (by omega)) dL_law_938 ?_
    refine q_top (show xs (nI (i + 1)).toNatClampNeg = x0 from ex0.symm) ?_
    have hPc : va_P D vwCl (wM cI cZ am bk pat dat sent rc los wai set bad gon rep kept thr na) H := jP_r (jP_r hP)
    have hDc : va_D (fun q : Nat => s.heap.size ≤ q) (wM cI cZ am bk pat dat sent rc los wai set bad gon rep kept thr na) := jD_r (jD_r hD)
    refine j_ci (wc := (wM cI cZ am bk pat dat sent rc los wai set bad gon rep kept thr na)) (pl := (wL cL q f ((wA cI cZ ad pat sent rep kept rc los wai set bad gon bk bp bv) ++ (wK cI cQ ad ck cp cv ek em)))) (w1 := fun u9 => u9) (va_runV (As := [.int (x0)]) (rest := []) ⟨hx, hb, hml, hown, hts⟩ (c_X4_packet l D cI cZ cQ cL am bk pat dat sent rc los wai set bad gon rep kept thr na x0 H.size hbk) (cwV 1 hts gL_law_X4_packet rfl rfl rfl ⟨rfl, hd_X4_packet⟩ ⟨Nat.le_of_ble_eq_true rfl, Nat.le_of_ble_eq_true rfl⟩) (PW_v (q := (RX4, TX4, 14)) (ci := 3) (q0 := 0) hPc hK hDc hN rfl rfl) rfl rfl hl.1 rfl (lv_room (Nat.le_of_ble_eq_true rfl)) dL_law_939 ⟨by show _ ≤ 601024; omega, by show _ ≤ 7293034; omega⟩) (jP_w (jP_k hP)) (jD_w (jD_k hD)) hS hA (fun r u H locs h hP hD hS => ?_)
    rcases h with ⟨rfl, hm, rfl⟩ | ⟨rfl, hm, rfl⟩ | ⟨rfl, hm, rfl⟩
    · exfalso; omega
    · exfalso; omega
    · have hP : va_P D vwCl ((wL cL q f ((wA cI cZ ad pat sent rep kept rc los wai set bad gon bk bp bv) ++ (wK cI cQ ad ck cp cv ek em))) ++ (wM cI cZ am bk pat dat sent rc los wai set bad gon rep kept 1 na)) H := jP_w hP
      have hD : va_D (fun q : Nat => s.heap.size ≤ q) ((wL cL q f ((wA cI cZ ad pat sent rep kept rc los wai set bad gon bk bp bv) ++ (wK cI cQ ad ck cp cv ek em))) ++ (wM cI cZ am bk pat dat sent rc los wai set bad gon rep kept 1 na)) := jD_w hD
      have hP : va_P D vwCl ((wL cL q f (wA cI cZ ad pat sent rep kept rc los wai set bad gon bk bp bv)) ++ ((wK cI cQ ad ck cp cv ek em) ++ (wM cI cZ am bk pat dat sent rc los wai set bad gon rep kept 1 na))) H := jP_K hP
      have hD : va_D (fun q : Nat => s.heap.size ≤ q) ((wL cL q f (wA cI cZ ad pat sent rep kept rc los wai set bad gon bk bp bv)) ++ ((wK cI cQ ad ck cp cv ek em) ++ (wM cI cZ am bk pat dat sent rc los wai set bad gon rep kept 1 na))) := jD_K hD
      refine lv_istore (lv' := [(6, .int (nI (0))), (5, .int (nI (1))), (0, .ref (b)), (1, .ref (ad 0)), (2, .ref (am 0)), (3, .ref (q)), (4, .int (nI (i)))]) hx hb dL_law_942 hl (by decide) rfl (fun ls hl => ?_)
      refine lv_aload_n hx hb dL_law_944 rfl (lv_at hl 4 rfl) ?_
      have hPc : va_P D vwCl (wM cI cZ am bk pat dat sent rc los wai set bad gon rep kept 1 na) H := jP_r (jP_r hP)
      have hDc : va_D (fun q : Nat => s.heap.size ≤ q) (wM cI cZ am bk pat dat sent rc los wai set bad gon rep kept 1 na) := jD_r (jD_r hD)
      refine q_csi (va_runV (As := []) (rest := []) ⟨hx, hb, hml, hown, hts⟩ (c_X4_thrown l D cI cZ cQ cL am bk pat dat sent rc los wai set bad gon rep kept 1 na H.size ) (cwV 0 hts gL_law_X4_thrown rfl rfl rfl ⟨rfl, hd_X4_thrown⟩ ⟨Nat.le_of_ble_eq_true rfl, Nat.le_of_ble_eq_true rfl⟩) (PW_v (q := (RX4, TX4, 14)) (ci := 3) (q0 := 0) hPc hK hDc hN rfl rfl) rfl rfl hl.1 rfl (lv_room (Nat.le_of_ble_eq_true rfl)) dL_law_945 ⟨by show _ ≤ 601024; omega, by show _ ≤ 7293034; omega⟩) (fun r_945 hr_945 => ?_)
      obtain rfl : r_945 = nI (1) := hr_945
      refine lv_iload hx hb dL_law_948 (lv_at hl 1 rfl) ?_
      refine q_icmp_eq (u := ((1 : Nat) : Int)) (v := ((1 : Nat) : Int)) (tgt := 955) hx hb dL_law_950 (by decide) (nI_toInt (by omega)) (nI_toInt (by omega)) (fun _ => ?_) (fun c_950 => absurd c_950 (by decide))
      refine lv_iload hx hb dL_law_955 (lv_at hl 1 rfl) ?_
      refine q_if_ne (u := ((1 : Nat) : Int)) (tgt := 972) hx hb dL_law_957 (by decide) (nI_toInt (by omega)) (fun _ => ?_) (fun c_957 => absurd c_957 (by decide))
      refine lv_goto (tgt := 1111) hx hb dL_law_972 (by decide) ?_
      refine W.widen (k := 100 + (i + 3)) (n := 1000 + 6 * (i + 3)) (by omega) (by omega) ?_
      exact kk f pat sent rep kept rc los wai set bad gon bk bp bv ck cp cv ek em dat 1 na hI H locs hP hD hS ls (lv_sub hl [2, 3, 4, 5, 6] rfl)
