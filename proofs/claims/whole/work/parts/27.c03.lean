set_option maxHeartbeats 16000000 in
set_option maxRecDepth 100000 in
theorem law_c3 {p : Program} {l : Launch} {e : Env} {s : State} {m : MethodId} {below : List Frame} {meth : Method} {c : Code} {b L : Nat} {xs : Nat → Int32} {D : va_G} {cI cZ cQ cL : ClassId} {Q : State → Prop} (hfl : l.stackTraces = false) (hL : L ≤ 1536) (hx : p.tables.exec = Jvm.exec) (hb : c.code = cL_law) (hml : c.maxLocals = 7) (hown : s.vm.findClass RL = some m.cls) (hts : ∀ w ∈ wsL_law, w.before #[Value.ref b] s = true) (hXs : va_X b L xs s s.heap) (hbl : b < s.heap.size) (hK : va_K D vwCl (TY cI cZ cQ cL) s) (hN : NK s) (hXK : XK s.heap.size s) {q : Nat} {ad am : Nat → Nat} (i : Nat) (hi : i + 3 ≤ L) (kk : LNX p l e s m below meth c b D cI cZ cQ cL Q q ad am i (100 + (i + 3)) (1000 + 6 * (i + 3)) 1111) : LNX p l e s m below meth c b D cI cZ cQ cL Q q ad am i (100 + i) (1000 + 6 * i) 332 := by
  intro f pat sent rep kept rc los wai set bad gon bk bp bv ck cp cv ek em dat thr na hI H locs hP hD hS ls hl
  have hA : ∀ q : Nat, s.heap.size ≤ q → (fun q : Nat => s.heap.size ≤ q) q := fun _ h => h
  have hbA : ¬ (fun q : Nat => s.heap.size ≤ q) b := Nat.not_le.mpr hbl
  obtain ⟨hrc, hlos, hwai, hset, hbad, hgon, hbk, hpa, hse, hbp, hbv, hlv, hp1⟩ := id hI
  obtain ⟨x0, ex0⟩ : ∃ x0 : Int32, x0 = xs (nI (i + 1)).toNatClampNeg := ⟨_, rfl⟩
  obtain ⟨x1, ex1⟩ : ∃ x1 : Int32, x1 = xs (nI (i + 2)).toNatClampNeg := ⟨_, rfl⟩
  refine lv_aload_n hx hb dL_law_332 rfl (lv_at hl 1 rfl) ?_
  refine lv_aload_n hx hb dL_law_333 rfl (lv_at hl 0 rfl) ?_
  refine lv_iload hx hb dL_law_334 (lv_at hl 4 rfl) ?_
  refine lv_iconst (v := nI (1)) hx hb dL_law_336 (by decide) ?_
  refine lv_iadd hx hb dL_law_337 ?_
  refine q_top (show (nI (i) + nI (1)) = nI (i + 1) from nI_add _ _) ?_
  refine va_sld hx hb hXs hbl hbA hS (vp_in_nI (by omega) (by omega)) dL_law_338 ?_
  refine q_top (show xs (nI (i + 1)).toNatClampNeg = x0 from ex0.symm) ?_
  refine lv_aload_n hx hb dL_law_339 rfl (lv_at hl 0 rfl) ?_
  refine lv_iload hx hb dL_law_340 (lv_at hl 4 rfl) ?_
  refine lv_iconst (v := nI (2)) hx hb dL_law_342 (by decide) ?_
  refine lv_iadd hx hb dL_law_343 ?_
  refine q_top (show (nI (i) + nI (2)) = nI (i + 2) from nI_add _ _) ?_
  refine va_sld hx hb hXs hbl hbA hS (vp_in_nI (by omega) (by omega)) dL_law_344 ?_
  refine q_top (show xs (nI (i + 2)).toNatClampNeg = x1 from ex1.symm) ?_
  refine lv_aload_n hx hb dL_law_345 rfl (lv_at hl 3 rfl) ?_
  have hPc : va_P D vwCl (wL cL q f (wA cI cZ ad pat sent rep kept rc los wai set bad gon bk bp bv)) H := jP_l hP
  have hDc : va_D (fun q : Nat => s.heap.size ≤ q) (wL cL q f (wA cI cZ ad pat sent rep kept rc los wai set bad gon bk bp bv)) := jD_l hD
  refine j_ci (wc := (wL cL q f (wA cI cZ ad pat sent rep kept rc los wai set bad gon bk bp bv))) (pl := ((wK cI cQ ad ck cp cv ek em) ++ (wM cI cZ am bk pat dat sent rc los wai set bad gon rep kept thr na))) (w1 := fun u9 => u9) (vx_runSW (As := [.ref (ad 0), .int (x0), .int (x1), .ref (q)]) (rest := []) ⟨hx, hb, hml, hown, hts⟩ (c_L_setLosses l D cI cZ cQ cL hfl s.heap.size q f ad pat sent rep kept rc los wai set bad gon bk bp bv x0 x1 H.size hrc) (vx_cwSW 4 hts gL_law_L_setLosses rfl rfl rfl hd_L_setLosses ⟨Nat.le_of_ble_eq_true rfl, Nat.le_of_ble_eq_true rfl⟩) (PX_s hPc hK hDc hN hXK hS.2.1) rfl rfl hl.1 rfl (lv_room (Nat.le_of_ble_eq_true rfl)) dL_law_346 ⟨by show _ ≤ 601024; omega, by show _ ≤ 7293034; omega⟩) hP hD hS hA (fun r u H locs h hP hD hS => ?_)
  rcases h with ⟨rfl, hc, g, hg, rfl⟩ | ⟨rfl, hc, rfl⟩ | ⟨rfl, hc, rfl⟩
  · have hP : va_P D vwCl ((wL cL q g (wA cI cZ ad pat sent rep kept rc (un los (tn x0) (tn x1)) wai set bad gon bk bp bv)) ++ ((wK cI cQ ad ck cp cv ek em) ++ (wM cI cZ am bk pat dat sent rc los wai set bad gon rep kept thr na))) H := hP
    have hD : va_D (fun q : Nat => s.heap.size ≤ q) ((wL cL q g (wA cI cZ ad pat sent rep kept rc (un los (tn x0) (tn x1)) wai set bad gon bk bp bv)) ++ ((wK cI cQ ad ck cp cv ek em) ++ (wM cI cZ am bk pat dat sent rc los wai set bad gon rep kept thr na))) := hD
    refine lv_istore (lv' := [(5, .int (nI (0))), (0, .ref (b)), (1, .ref (ad 0)), (2, .ref (am 0)), (3, .ref (q)), (4, .int (nI (i)))]) hx hb dL_law_349 hl (by decide) rfl (fun ls hl => ?_)
    refine lv_aload_n hx hb dL_law_351 rfl (lv_at hl 3 rfl) ?_
    refine lv_aload_n hx hb dL_law_352 rfl (lv_at hl 1 rfl) ?_
    refine lv_iload hx hb dL_law_353 (lv_at hl 5 rfl) ?_
    refine lv_iconst (v := nI (1)) hx hb dL_law_355 (by decide) ?_
    refine lv_iadd hx hb dL_law_356 ?_
    refine q_top (show (nI (i) + nI (1)) = nI (i + 1) from nI_add _ _) ?_
    refine va_sld hx hb hXs hbl hbA hS (vp_in_nI (by omega) (by omega)) dL_law_357 ?_
    refine q_top (show xs (nI (i + 1)).toNatClampNeg = x0 from ex0.symm) ?_
    refine lv_aload_n hx hb dL_law_358 rfl (lv_at hl 1 rfl) ?_
    refine lv_iload hx hb dL_law_359 (lv_at hl 5 rfl) ?_
    refine lv_iconst (v := nI (2)) hx hb dL_law_361 (by decide) ?_
    refine lv_iadd hx hb dL_law_362 ?_
    refine q_top (show (nI (i) + nI (2)) = nI (i + 2) from nI_add _ _) ?_
    refine va_sld hx hb hXs hbl hbA hS (vp_in_nI (by omega) (by omega)) dL_law_363 ?_
    refine q_top (show xs (nI (i + 2)).toNatClampNeg = x1 from ex1.symm) ?_
    have hPc : va_P D vwCl (wM cI cZ am bk pat dat sent rc los wai set bad gon rep kept thr na) H := jP_r (jP_r hP)
    have hDc : va_D (fun q : Nat => s.heap.size ≤ q) (wM cI cZ am bk pat dat sent rc los wai set bad gon rep kept thr na) := jD_r (jD_r hD)
    refine j_ci (wc := (wM cI cZ am bk pat dat sent rc los wai set bad gon rep kept thr na)) (pl := (wL cL q g ((wA cI cZ ad pat sent rep kept rc (un los (tn x0) (tn x1)) wai set bad gon bk bp bv) ++ (wK cI cQ ad ck cp cv ek em)))) (w1 := fun u9 => u9) (va_runV (As := [.int (x0), .int (x1)]) (rest := []) ⟨hx, hb, hml, hown, hts⟩ (c_X4_setLosses l D cI cZ cQ cL am bk pat dat sent rc los wai set bad gon rep kept thr na x0 x1 H.size hrc) (cwV 2 hts gL_law_X4_setLosses rfl rfl rfl ⟨rfl, hd_X4_setLosses⟩ ⟨Nat.le_of_ble_eq_true rfl, Nat.le_of_ble_eq_true rfl⟩) (PW_v (q := (RX4, TX4, 14)) (ci := 3) (q0 := 0) hPc hK hDc hN rfl rfl) rfl rfl hl.1 rfl (lv_room (Nat.le_of_ble_eq_true rfl)) dL_law_364 ⟨by show _ ≤ 601024; omega, by show _ ≤ 7293034; omega⟩) (jP_w (jP_k hP)) (jD_w (jD_k hD)) hS hA (fun r u H locs h hP hD hS => ?_)
    rcases h with ⟨rfl, hm, rfl⟩ | ⟨rfl, hm, rfl⟩ | ⟨rfl, hm, rfl⟩
    · have hP : va_P D vwCl ((wL cL q g ((wA cI cZ ad pat sent rep kept rc (un los (tn x0) (tn x1)) wai set bad gon bk bp bv) ++ (wK cI cQ ad ck cp cv ek em))) ++ (wM cI cZ am bk pat dat sent rc (un los (tn x0) (tn x1)) wai set bad gon rep kept 0 na)) H := jP_w hP
      have hD : va_D (fun q : Nat => s.heap.size ≤ q) ((wL cL q g ((wA cI cZ ad pat sent rep kept rc (un los (tn x0) (tn x1)) wai set bad gon bk bp bv) ++ (wK cI cQ ad ck cp cv ek em))) ++ (wM cI cZ am bk pat dat sent rc (un los (tn x0) (tn x1)) wai set bad gon rep kept 0 na)) := jD_w hD
      have hP : va_P D vwCl ((wL cL q g (wA cI cZ ad pat sent rep kept rc (un los (tn x0) (tn x1)) wai set bad gon bk bp bv)) ++ ((wK cI cQ ad ck cp cv ek em) ++ (wM cI cZ am bk pat dat sent rc (un los (tn x0) (tn x1)) wai set bad gon rep kept 0 na))) H := jP_K hP
      have hD : va_D (fun q : Nat => s.heap.size ≤ q) ((wL cL q g (wA cI cZ ad pat sent rep kept rc (un los (tn x0) (tn x1)) wai set bad gon bk bp bv)) ++ ((wK cI cQ ad ck cp cv ek em) ++ (wM cI cZ am bk pat dat sent rc (un los (tn x0) (tn x1)) wai set bad gon rep kept 0 na))) := jD_K hD
      refine q_top (show nI (los (tn x0)) = nI (los (tn x0)) from rfl) ?_
      refine lv_istore (lv' := [(6, .int (nI (los (tn x0)))), (5, .int (nI (0))), (0, .ref (b)), (1, .ref (ad 0)), (2, .ref (am 0)), (3, .ref (q)), (4, .int (nI (i)))]) hx hb dL_law_367 hl (by decide) rfl (fun ls hl => ?_)
      refine lv_aload_n hx hb dL_law_369 rfl (lv_at hl 4 rfl) ?_
      have hPc : va_P D vwCl (wM cI cZ am bk pat dat sent rc (un los (tn x0) (tn x1)) wai set bad gon rep kept 0 na) H := jP_r (jP_r hP)
      have hDc : va_D (fun q : Nat => s.heap.size ≤ q) (wM cI cZ am bk pat dat sent rc (un los (tn x0) (tn x1)) wai set bad gon rep kept 0 na) := jD_r (jD_r hD)
      refine q_csi (va_runV (As := []) (rest := []) ⟨hx, hb, hml, hown, hts⟩ (c_X4_thrown l D cI cZ cQ cL am bk pat dat sent rc (un los (tn x0) (tn x1)) wai set bad gon rep kept 0 na H.size ) (cwV 0 hts gL_law_X4_thrown rfl rfl rfl ⟨rfl, hd_X4_thrown⟩ ⟨Nat.le_of_ble_eq_true rfl, Nat.le_of_ble_eq_true rfl⟩) (PW_v (q := (RX4, TX4, 14)) (ci := 3) (q0 := 0) hPc hK hDc hN rfl rfl) rfl rfl hl.1 rfl (lv_room (Nat.le_of_ble_eq_true rfl)) dL_law_370 ⟨by show _ ≤ 601024; omega, by show _ ≤ 7293034; omega⟩) (fun r_370 hr_370 => ?_)
      obtain rfl : r_370 = nI (0) := hr_370
      refine lv_iload hx hb dL_law_373 (lv_at hl 1 rfl) ?_
      refine q_icmp_eq (u := ((0 : Nat) : Int)) (v := ((0 : Nat) : Int)) (tgt := 380) hx hb dL_law_375 (by decide) (nI_toInt (by omega)) (nI_toInt (by omega)) (fun _ => ?_) (fun c_375 => absurd c_375 (by decide))
      refine lv_iload hx hb dL_law_380 (lv_at hl 1 rfl) ?_
      refine q_if_ne (u := ((0 : Nat) : Int)) (tgt := 397) hx hb dL_law_382 (by decide) (nI_toInt (by omega)) (fun c_382 => absurd c_382 (by decide)) (fun _ => ?_)
      refine lv_aload_n hx hb dL_law_385 rfl (lv_at hl 5 rfl) ?_
      refine lv_iconst (v := nI (0)) hx hb dL_law_386 (by decide) ?_
      refine va_lald (f := g) hx hb hK hP 0 3 rfl rfl (vp_in_nI (by decide) (by decide)) dL_law_387 ?_
      refine q_topl (show g (nI (0)).toNatClampNeg = (nI (los (tn x0))).toInt64 from hg) ?_
      refine lv_iload hx hb dL_law_388 (lv_at hl 0 rfl) ?_
      refine lv_i2l (v := ((nI (los (tn x0)))).toInt64) hx hb dL_law_390 rfl ?_
      refine W.lcmp hx hb dL_law_391 ?_
      refine q_top (show _ = nI (0) from (lg_cmp_eq _ _).mpr rfl) ?_
      refine q_if_eq (u := ((0 : Nat) : Int)) (tgt := 397) hx hb dL_law_392 (by decide) (nI_toInt (by omega)) (fun _ => ?_) (fun c_392 => absurd c_392 (by decide))
      refine lv_goto (tgt := 1111) hx hb dL_law_397 (by decide) ?_
      refine W.widen (k := 100 + (i + 3)) (n := 1000 + 6 * (i + 3)) (by omega) (by omega) ?_
      exact kk g pat sent rep kept rc (un los (tn x0) (tn x1)) wai set bad gon bk bp bv ck cp cv ek em dat 0 na (LI_setLosses hI _ hc.2) H locs hP hD hS ls (lv_sub hl [2, 3, 4, 5, 6] rfl)
    · exfalso; omega
    · exfalso; omega
  · have hP : va_P D vwCl ((wL cL q f (wA cI cZ ad pat sent rep kept rc los wai set bad gon bk bp bv)) ++ ((wK cI cQ ad ck cp cv ek em) ++ (wM cI cZ am bk pat dat sent rc los wai set bad gon rep kept thr na))) H := hP
    have hD : va_D (fun q : Nat => s.heap.size ≤ q) ((wL cL q f (wA cI cZ ad pat sent rep kept rc los wai set bad gon bk bp bv)) ++ ((wK cI cQ ad ck cp cv ek em) ++ (wM cI cZ am bk pat dat sent rc los wai set bad gon rep kept thr na))) := hD
    refine lv_istore (lv' := [(5, .int (nI (1))), (0, .ref (b)), (1, .ref (ad 0)), (2, .ref (am 0)), (3, .ref (q)), (4, .int (nI (i)))]) hx hb dL_law_349 hl (by decide) rfl (fun ls hl => ?_)
    refine lv_aload_n hx hb dL_law_351 rfl (lv_at hl 3 rfl) ?_
    refine lv_aload_n hx hb dL_law_352 rfl (lv_at hl 1 rfl) ?_
    refine lv_iload hx hb dL_law_353 (lv_at hl 5 rfl) ?_
    refine lv_iconst (v := nI (1)) hx hb dL_law_355 (by decide) ?_
    refine lv_iadd hx hb dL_law_356 ?_
    refine q_top (show (nI (i) + nI (1)) = nI (i + 1) from nI_add _ _) ?_
    refine va_sld hx hb hXs hbl hbA hS (vp_in_nI (by omega) (by omega)) dL_law_357 ?_
    refine q_top (show xs (nI (i + 1)).toNatClampNeg = x0 from ex0.symm) ?_
    refine lv_aload_n hx hb dL_law_358 rfl (lv_at hl 1 rfl) ?_
    refine lv_iload hx hb dL_law_359 (lv_at hl 5 rfl) ?_
    refine lv_iconst (v := nI (2)) hx hb dL_law_361 (by decide) ?_
    refine lv_iadd hx hb dL_law_362 ?_
    refine q_top (show (nI (i) + nI (2)) = nI (i + 2) from nI_add _ _) ?_
    refine va_sld hx hb hXs hbl hbA hS (vp_in_nI (by omega) (by omega)) dL_law_363 ?_
    refine q_top (show xs (nI (i + 2)).toNatClampNeg = x1 from ex1.symm) ?_
    have hPc : va_P D vwCl (wM cI cZ am bk pat dat sent rc los wai set bad gon rep kept thr na) H := jP_r (jP_r hP)
    have hDc : va_D (fun q : Nat => s.heap.size ≤ q) (wM cI cZ am bk pat dat sent rc los wai set bad gon rep kept thr na) := jD_r (jD_r hD)
    refine j_ci (wc := (wM cI cZ am bk pat dat sent rc los wai set bad gon rep kept thr na)) (pl := (wL cL q f ((wA cI cZ ad pat sent rep kept rc los wai set bad gon bk bp bv) ++ (wK cI cQ ad ck cp cv ek em)))) (w1 := fun u9 => u9) (va_runV (As := [.int (x0), .int (x1)]) (rest := []) ⟨hx, hb, hml, hown, hts⟩ (c_X4_setLosses l D cI cZ cQ cL am bk pat dat sent rc los wai set bad gon rep kept thr na x0 x1 H.size hrc) (cwV 2 hts gL_law_X4_setLosses rfl rfl rfl ⟨rfl, hd_X4_setLosses⟩ ⟨Nat.le_of_ble_eq_true rfl, Nat.le_of_ble_eq_true rfl⟩) (PW_v (q := (RX4, TX4, 14)) (ci := 3) (q0 := 0) hPc hK hDc hN rfl rfl) rfl rfl hl.1 rfl (lv_room (Nat.le_of_ble_eq_true rfl)) dL_law_364 ⟨by show _ ≤ 601024; omega, by show _ ≤ 7293034; omega⟩) (jP_w (jP_k hP)) (jD_w (jD_k hD)) hS hA (fun r u H locs h hP hD hS => ?_)
    rcases h with ⟨rfl, hm, rfl⟩ | ⟨rfl, hm, rfl⟩ | ⟨rfl, hm, rfl⟩
    · exfalso; omega
    · have hP : va_P D vwCl ((wL cL q f ((wA cI cZ ad pat sent rep kept rc los wai set bad gon bk bp bv) ++ (wK cI cQ ad ck cp cv ek em))) ++ (wM cI cZ am bk pat dat sent rc los wai set bad gon rep kept 1 na)) H := jP_w hP
      have hD : va_D (fun q : Nat => s.heap.size ≤ q) ((wL cL q f ((wA cI cZ ad pat sent rep kept rc los wai set bad gon bk bp bv) ++ (wK cI cQ ad ck cp cv ek em))) ++ (wM cI cZ am bk pat dat sent rc los wai set bad gon rep kept 1 na)) := jD_w hD
      have hP : va_P D vwCl ((wL cL q f (wA cI cZ ad pat sent rep kept rc los wai set bad gon bk bp bv)) ++ ((wK cI cQ ad ck cp cv ek em) ++ (wM cI cZ am bk pat dat sent rc los wai set bad gon rep kept 1 na))) H := jP_K hP
      have hD : va_D (fun q : Nat => s.heap.size ≤ q) ((wL cL q f (wA cI cZ ad pat sent rep kept rc los wai set bad gon bk bp bv)) ++ ((wK cI cQ ad ck cp cv ek em) ++ (wM cI cZ am bk pat dat sent rc los wai set bad gon rep kept 1 na))) := jD_K hD
      refine lv_istore (lv' := [(6, .int (nI (0))), (5, .int (nI (1))), (0, .ref (b)), (1, .ref (ad 0)), (2, .ref (am 0)), (3, .ref (q)), (4, .int (nI (i)))]) hx hb dL_law_367 hl (by decide) rfl (fun ls hl => ?_)
      refine lv_aload_n hx hb dL_law_369 rfl (lv_at hl 4 rfl) ?_
      have hPc : va_P D vwCl (wM cI cZ am bk pat dat sent rc los wai set bad gon rep kept 1 na) H := jP_r (jP_r hP)
      have hDc : va_D (fun q : Nat => s.heap.size ≤ q) (wM cI cZ am bk pat dat sent rc los wai set bad gon rep kept 1 na) := jD_r (jD_r hD)
      refine q_csi (va_runV (As := []) (rest := []) ⟨hx, hb, hml, hown, hts⟩ (c_X4_thrown l D cI cZ cQ cL am bk pat dat sent rc los wai set bad gon rep kept 1 na H.size ) (cwV 0 hts gL_law_X4_thrown rfl rfl rfl ⟨rfl, hd_X4_thrown⟩ ⟨Nat.le_of_ble_eq_true rfl, Nat.le_of_ble_eq_true rfl⟩) (PW_v (q := (RX4, TX4, 14)) (ci := 3) (q0 := 0) hPc hK hDc hN rfl rfl) rfl rfl hl.1 rfl (lv_room (Nat.le_of_ble_eq_true rfl)) dL_law_370 ⟨by show _ ≤ 601024; omega, by show _ ≤ 7293034; omega⟩) (fun r_370 hr_370 => ?_)
      obtain rfl : r_370 = nI (1) := hr_370
      refine lv_iload hx hb dL_law_373 (lv_at hl 1 rfl) ?_
      refine q_icmp_eq (u := ((1 : Nat) : Int)) (v := ((1 : Nat) : Int)) (tgt := 380) hx hb dL_law_375 (by decide) (nI_toInt (by omega)) (nI_toInt (by omega)) (fun _ => ?_) (fun c_375 => absurd c_375 (by decide))
      refine lv_iload hx hb dL_law_380 (lv_at hl 1 rfl) ?_
      refine q_if_ne (u := ((1 : Nat) : Int)) (tgt := 397) hx hb dL_law_382 (by decide) (nI_toInt (by omega)) (fun _ => ?_) (fun c_382 => absurd c_382 (by decide))
      refine lv_goto (tgt := 1111) hx hb dL_law_397 (by decide) ?_
      refine W.widen (k := 100 + (i + 3)) (n := 1000 + 6 * (i + 3)) (by omega) (by omega) ?_
      exact kk f pat sent rep kept rc los wai set bad gon bk bp bv ck cp cv ek em dat 1 na hI H locs hP hD hS ls (lv_sub hl [2, 3, 4, 5, 6] rfl)
    · exfalso; omega
  · have hP : va_P D vwCl ((wL cL q f (wA cI cZ ad pat sent rep kept rc los wai set bad gon bk bp bv)) ++ ((wK cI cQ ad ck cp cv ek em) ++ (wM cI cZ am bk pat dat sent rc los wai set bad gon rep kept thr na))) H := hP
    have hD : va_D (fun q : Nat => s.heap.size ≤ q) ((wL cL q f (wA cI cZ ad pat sent rep kept rc los wai set bad gon bk bp bv)) ++ ((wK cI cQ ad ck cp cv ek em) ++ (wM cI cZ am bk pat dat sent rc los wai set bad gon rep kept thr na))) := hD
    refine lv_istore (lv' := [(5, .int (nI (2))), (0, .ref (b)), (1, .ref (ad 0)), (2, .ref (am 0)), (3, .ref (q)), (4, .int (nI (i)))]) hx hb dL_law_349 hl (by decide) rfl (fun ls hl => ?_)
    refine lv_aload_n hx hb dL_law_351 rfl (lv_at hl 3 rfl) ?_
    refine lv_aload_n hx hb dL_law_352 rfl (lv_at hl 1 rfl) ?_
    refine lv_iload hx hb dL_law_353 (lv_at hl 5 rfl) ?_
    refine lv_iconst (v := nI (1)) hx hb dL_law_355 (by decide) ?_
    refine lv_iadd hx hb dL_law_356 ?_
    refine q_top (show (nI (i) + nI (1)) = nI (i + 1) from nI_add _ _) ?_
    refine va_sld hx hb hXs hbl hbA hS (vp_in_nI (by omega) (by omega)) dL_law_357 ?_
    refine q_top (show xs (nI (i + 1)).toNatClampNeg = x0 from ex0.symm) ?_
    refine lv_aload_n hx hb dL_law_358 rfl (lv_at hl 1 rfl) ?_
    refine lv_iload hx hb dL_law_359 (lv_at hl 5 rfl) ?_
    refine lv_iconst (v := nI (2)) hx hb dL_law_361 (by decide) ?_
    refine lv_iadd hx hb dL_law_362 ?_
    refine q_top (show (nI (i) + nI (2)) = nI (i + 2) from nI_add _ _) ?_
    refine va_sld hx hb hXs hbl hbA hS (vp_in_nI (by omega) (by omega)) dL_law_363 ?_
    refine q_top (show xs (nI (i + 2)).toNatClampNeg = x1 from ex1.symm) ?_
    have hPc : va_P D vwCl (wM cI cZ am bk pat dat sent rc los wai set bad gon rep kept thr na) H := jP_r (jP_r hP)
    have hDc : va_D (fun q : Nat => s.heap.size ≤ q) (wM cI cZ am bk pat dat sent rc los wai set bad gon rep kept thr na) := jD_r (jD_r hD)
    refine j_ci (wc := (wM cI cZ am bk pat dat sent rc los wai set bad gon rep kept thr na)) (pl := (wL cL q f ((wA cI cZ ad pat sent rep kept rc los wai set bad gon bk bp bv) ++ (wK cI cQ ad ck cp cv ek em)))) (w1 := fun u9 => u9) (va_runV (As := [.int (x0), .int (x1)]) (rest := []) ⟨hx, hb, hml, hown, hts⟩ (c_X4_setLosses l D cI cZ cQ cL am bk pat dat sent rc los wai set bad gon rep kept thr na x0 x1 H.size hrc) (cwV 2 hts gL_law_X4_setLosses rfl rfl rfl ⟨rfl, hd_X4_setLosses⟩ ⟨Nat.le_of_ble_eq_true rfl, Nat.le_of_ble_eq_true rfl⟩) (PW_v (q := (RX4, TX4, 14)) (ci := 3) (q0 := 0) hPc hK hDc hN rfl rfl) rfl rfl hl.1 rfl (lv_room (Nat.le_of_ble_eq_true rfl)) dL_law_364 ⟨by show _ ≤ 601024; omega, by show _ ≤ 7293034; omega⟩) (jP_w (jP_k hP)) (jD_w (jD_k hD)) hS hA (fun r u H locs h hP hD hS => ?_)
    rcases h with ⟨rfl, hm, rfl⟩ | ⟨rfl, hm, rfl⟩ | ⟨rfl, hm, rfl⟩
    · exfalso; omega
    · exfalso; omega
    · have hP : va_P D vwCl ((wL cL q f ((wA cI cZ ad pat sent rep kept rc los wai set bad gon bk bp bv) ++ (wK cI cQ ad ck cp cv ek em))) ++ (wM cI cZ am bk pat dat sent rc los wai set bad gon rep kept 2 na)) H := jP_w hP
      have hD : va_D (fun q : Nat => s.heap.size ≤ q) ((wL cL q f ((wA cI cZ ad pat sent rep kept rc los wai set bad gon bk bp bv) ++ (wK cI cQ ad ck cp cv ek em))) ++ (wM cI cZ am bk pat dat sent rc los wai set bad gon rep kept 2 na)) := jD_w hD
      have hP : va_P D vwCl ((wL cL q f (wA cI cZ ad pat sent rep kept rc los wai set bad gon bk bp bv)) ++ ((wK cI cQ ad ck cp cv ek em) ++ (wM cI cZ am bk pat dat sent rc los wai set bad gon rep kept 2 na))) H := jP_K hP
      have hD : va_D (fun q : Nat => s.heap.size ≤ q) ((wL cL q f (wA cI cZ ad pat sent rep kept rc los wai set bad gon bk bp bv)) ++ ((wK cI cQ ad ck cp cv ek em) ++ (wM cI cZ am bk pat dat sent rc los wai set bad gon rep kept 2 na))) := jD_K hD
      refine lv_istore (lv' := [(6, .int (nI (0))), (5, .int (nI (2))), (0, .ref (b)), (1, .ref (ad 0)), (2, .ref (am 0)), (3, .ref (q)), (4, .int (nI (i)))]) hx hb dL_law_367 hl (by decide) rfl (fun ls hl => ?_)
      refine lv_aload_n hx hb dL_law_369 rfl (lv_at hl 4 rfl) ?_
      have hPc : va_P D vwCl (wM cI cZ am bk pat dat sent rc los wai set bad gon rep kept 2 na) H := jP_r (jP_r hP)
      have hDc : va_D (fun q : Nat => s.heap.size ≤ q) (wM cI cZ am bk pat dat sent rc los wai set bad gon rep kept 2 na) := jD_r (jD_r hD)
      refine q_csi (va_runV (As := []) (rest := []) ⟨hx, hb, hml, hown, hts⟩ (c_X4_thrown l D cI cZ cQ cL am bk pat dat sent rc los wai set bad gon rep kept 2 na H.size ) (cwV 0 hts gL_law_X4_thrown rfl rfl rfl ⟨rfl, hd_X4_thrown⟩ ⟨Nat.le_of_ble_eq_true rfl, Nat.le_of_ble_eq_true rfl⟩) (PW_v (q := (RX4, TX4, 14)) (ci := 3) (q0 := 0) hPc hK hDc hN rfl rfl) rfl rfl hl.1 rfl (lv_room (Nat.le_of_ble_eq_true rfl)) dL_law_370 ⟨by show _ ≤ 601024; omega, by show _ ≤ 7293034; omega⟩) (fun r_370 hr_370 => ?_)
      obtain rfl : r_370 = nI (2) := hr_370
      refine lv_iload hx hb dL_law_373 (lv_at hl 1 rfl) ?_
      refine q_icmp_eq (u := ((2 : Nat) : Int)) (v := ((2 : Nat) : Int)) (tgt := 380) hx hb dL_law_375 (by decide) (nI_toInt (by omega)) (nI_toInt (by omega)) (fun _ => ?_) (fun c_375 => absurd c_375 (by decide))
      refine lv_iload hx hb dL_law_380 (lv_at hl 1 rfl) ?_
      refine q_if_ne (u := ((2 : Nat) : Int)) (tgt := 397) hx hb dL_law_382 (by decide) (nI_toInt (by omega)) (fun _ => ?_) (fun c_382 => absurd c_382 (by decide))
      refine lv_goto (tgt := 1111) hx hb dL_law_397 (by decide) ?_
      refine W.widen (k := 100 + (i + 3)) (n := 1000 + 6 * (i + 3)) (by omega) (by omega) ?_
      exact kk f pat sent rep kept rc los wai set bad gon bk bp bv ck cp cv ek em dat 2 na hI H locs hP hD hS ls (lv_sub hl [2, 3, 4, 5, 6] rfl)
