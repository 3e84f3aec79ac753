set_option maxHeartbeats 16000000 in
set_option maxRecDepth 100000 in
theorem law_c9 {p : Program} {l : Launch} {e : Env} {s : State} {m : MethodId} {below : List Frame} {meth : Method} {c : Code} {b L : Nat} {xs : Nat → Int32} {D : va_G} {cI cZ cQ cL : ClassId} {Q : State → Prop} (hfl : l.stackTraces = false) (hL : L ≤ 1536) (hx : p.tables.exec = Jvm.exec) (hb : c.code = cL_law) (hml : c.maxLocals = 7) (hown : s.vm.findClass RL = some m.cls) (hts : ∀ w ∈ wsL_law, w.before #[Value.ref b] s = true) (hXs : va_X b L xs s s.heap) (hbl : b < s.heap.size) (hK : va_K D vwCl (TY cI cZ cQ cL) s) (hN : NK s) (hXK : XK s.heap.size s) {q : Nat} {ad am : Nat → Nat} (i : Nat) (hi : i + 3 ≤ L) (kk : LNX p l e s m below meth c b D cI cZ cQ cL Q q ad am i (100 + (i + 3)) (1000 + 6 * (i + 3)) 1111) : LNX p l e s m below meth c b D cI cZ cQ cL Q q ad am i (100 + i) (1000 + 6 * i) 594 := by
  intro f pat sent rep kept rc los wai set bad gon bk bp bv ck cp cv ek em dat thr na hI H locs hP hD hS ls hl
  have hA : ∀ q : Nat, s.heap.size ≤ q → (fun q : Nat => s.heap.size ≤ q) q := fun _ h => h
  have hbA : ¬ (fun q : Nat => s.heap.size ≤ q) b := Nat.not_le.mpr hbl
  obtain ⟨hrc, hlos, hwai, hset, hbad, hgon, hbk, hpa, hse, hbp, hbv, hlv, hp1⟩ := id hI
  obtain ⟨x0, ex0⟩ : ∃ x0 : Int32, x0 = xs (nI (i + 1)).toNatClampNeg := ⟨_, rfl⟩
  obtain ⟨x1, ex1⟩ : ∃ x1 : Int32, x1 = xs (nI (i + 2)).toNatClampNeg := ⟨_, rfl⟩
  refine lv_aload_n hx hb dL_law_594 rfl (lv_at hl 1 rfl) ?_
  have hPc : va_P D vwCl (wA cI cZ ad pat sent rep kept rc los wai set bad gon bk bp bv) H := jP_t (jP_l hP)
  have hDc : va_D (fun q : Nat => s.heap.size ≤ q) (wA cI cZ ad pat sent rep kept rc los wai set bad gon bk bp bv) := jD_t (jD_l hD)
  refine q_csi (va_runV (As := []) (rest := []) ⟨hx, hb, hml, hown, hts⟩ (c_X3_reports l D cI cZ cQ cL ad pat sent rep kept rc los wai set bad gon bk bp bv H.size ) (cwV 0 hts gL_law_X3_reports rfl rfl rfl ⟨rfl, hd_X3_reports⟩ ⟨Nat.le_of_ble_eq_true rfl, Nat.le_of_ble_eq_true rfl⟩) (PW_v (q := (RX3, TX3, 13)) (ci := 2) (q0 := 0) hPc hK hDc hN rfl rfl) rfl rfl hl.1 rfl (lv_room (Nat.le_of_ble_eq_true rfl)) dL_law_595 ⟨by show _ ≤ 601024; omega, by show _ ≤ 7293034; omega⟩) (fun r_595 hr_595 => ?_)
  obtain rfl : r_595 = nI (rep) := hr_595
  refine lv_aload_n hx hb dL_law_598 rfl (lv_at hl 2 rfl) ?_
  have hPc : va_P D vwCl (wM cI cZ am bk pat dat sent rc los wai set bad gon rep kept thr na) H := jP_r (jP_r hP)
  have hDc : va_D (fun q : Nat => s.heap.size ≤ q) (wM cI cZ am bk pat dat sent rc los wai set bad gon rep kept thr na) := jD_r (jD_r hD)
  refine j_ci (wc := (wM cI cZ am bk pat dat sent rc los wai set bad gon rep kept thr na)) (pl := (wL cL q f ((wA cI cZ ad pat sent rep kept rc los wai set bad gon bk bp bv) ++ (wK cI cQ ad ck cp cv ek em)))) (w1 := fun _ => (wM cI cZ am (bk) (pat) (dat) (sent) (rc) (los) (wai) (set) (bad) (gon) (rep) (kept) (0) (na))) (va_runV (As := []) (rest := [.int (nI (rep))]) ⟨hx, hb, hml, hown, hts⟩ (c_X4_reports l D cI cZ cQ cL am bk pat dat sent rc los wai set bad gon rep kept thr na H.size ) (cwV 0 hts gL_law_X4_reports rfl rfl rfl ⟨rfl, hd_X4_reports⟩ ⟨Nat.le_of_ble_eq_true rfl, Nat.le_of_ble_eq_true rfl⟩) (PW_v (q := (RX4, TX4, 14)) (ci := 3) (q0 := 0) hPc hK hDc hN rfl rfl) rfl rfl hl.1 rfl (lv_room (Nat.le_of_ble_eq_true rfl)) dL_law_599 ⟨by show _ ≤ 601024; omega, by show _ ≤ 7293034; omega⟩) (jP_w (jP_k hP)) (jD_w (jD_k hD)) hS hA (fun r_599 u H locs hr_599 hP hD hS => ?_)
  obtain rfl : r_599 = nI (rep) := hr_599
  have hP : va_P D vwCl ((wL cL q f ((wA cI cZ ad pat sent rep kept rc los wai set bad gon bk bp bv) ++ (wK cI cQ ad ck cp cv ek em))) ++ (wM cI cZ am bk pat dat sent rc los wai set bad gon rep kept 0 na)) H := jP_w hP
  have hD : va_D (fun q : Nat => s.heap.size ≤ q) ((wL cL q f ((wA cI cZ ad pat sent rep kept rc los wai set bad gon bk bp bv) ++ (wK cI cQ ad ck cp cv ek em))) ++ (wM cI cZ am bk pat dat sent rc los wai set bad gon rep kept 0 na)) := jD_w hD
  have hP : va_P D vwCl ((wL cL q f (wA cI cZ ad pat sent rep kept rc los wai set bad gon bk bp bv)) ++ ((wK cI cQ ad ck cp cv ek em) ++ (wM cI cZ am bk pat dat sent rc los wai set bad gon rep kept 0 na))) H := jP_K hP
  have hD : va_D (fun q : Nat => s.heap.size ≤ q) ((wL cL q f (wA cI cZ ad pat sent rep kept rc los wai set bad gon bk bp bv)) ++ ((wK cI cQ ad ck cp cv ek em) ++ (wM cI cZ am bk pat dat sent rc los wai set bad gon rep kept 0 na))) := jD_K hD
  refine q_icmp_eq (u := (nI (rep)).toInt) (v := (nI (rep)).toInt) (tgt := 1111) hx hb dL_law_602 (by decide) rfl rfl (fun _ => ?_) (fun h9 => absurd rfl h9)
  refine W.widen (k := 100 + (i + 3)) (n := 1000 + 6 * (i + 3)) (by omega) (by omega) ?_
  exact kk f pat sent rep kept rc los wai set bad gon bk bp bv ck cp cv ek em dat 0 na hI H locs hP hD hS ls (lv_sub hl [0, 1, 2, 3, 4] rfl)
