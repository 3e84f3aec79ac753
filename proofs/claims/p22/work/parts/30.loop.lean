theorem lk_91 : Cond.constant RL 91 (2147483647) ∈ wsL_law := by decide +kernel
theorem lk_92 : Cond.constant RL 92 (48017) ∈ wsL_law := by decide +kernel
set_option maxHeartbeats 16000000 in
set_option maxRecDepth 100000 in
theorem law_758 {p : Program} {l : Launch} {e : Env} {s : State} {m : MethodId} {below : List Frame} {meth : Method} {c : Code} {b L : Nat} {xs : Nat → Int32} {D : va_G} {cI cZ cQ cL : ClassId} {Q : State → Prop} (hfl : l.stackTraces = false) (hL : L ≤ 260) (hx : p.tables.exec = Jvm.exec) (hb : c.code = cL_law) (hml : c.maxLocals = 15) (hown : s.vm.findClass RL = some m.cls) (hts : ∀ w ∈ wsL_law, w.before #[Value.ref b] s = true) (hXs : va_X b L xs s s.heap) (hbl : b < s.heap.size) (hK : va_K D vwCl (TY cI cZ cQ cL) s) (hN : NK s) (hXK : XK s.heap.size s) {q0 q1 q2 : Nat} {ad : Nat → Nat} (i y : Nat) (hi : i < 120) (hy : y < 2 ^ 30) (knx : LN p l e s m below meth c b D cI cZ cQ Q q0 q1 q2 ad (i + 1) [(0, .ref (b)), (1, .ref (ad 0)), (2, .ref (q0)), (3, .ref (q1)), (4, .ref (q2)), (5, .int (nI (1))), (6, .int (nI (i + 1)))] (200 + 80 * (i + 1)) (1000 + 500 * (i + 1)) 46) : LN p l e s m below meth c b D cI cZ cQ Q q0 q1 q2 ad (i + 1) [(0, .ref (b)), (1, .ref (ad 0)), (2, .ref (q0)), (3, .ref (q1)), (4, .ref (q2)), (5, .int (nI (1))), (6, .int (nI (i))), (9, .int (nI (y)))] (200 + 80 * i + 5) (1000 + 500 * i + 40) 758 := by
  have hA : ∀ q : Nat, s.heap.size ≤ q → (fun q : Nat => s.heap.size ≤ q) q := fun _ h => h
  have hbA : ¬ (fun q : Nat => s.heap.size ≤ q) b := Nat.not_le.mpr hbl
  intro pat sent rep kept rc los wai set bad gon bk bp bv ck cp cv ek em dat hJ H locs hP hD hS ls hl
  obtain ⟨⟨hrc, hlos, hwai, hset, hbad, hgon, hbk, hpa, hse, hbp, hbv, hlv, hp1⟩, hbk1, hs16, hr6, hk6⟩ := id hJ
  refine lv_iload hx hb dL_law_758 (lv_at hl 5 rfl) ?_
  refine q_if_eq (u := ((1 : Nat) : Int)) (tgt := 788) hx hb dL_law_760 (by decide) (nI_toInt (by omega)) (fun c_760 => absurd c_760 (by decide)) (fun _ => ?_)
  refine lv_iload hx hb dL_law_763 (lv_at hl 6 rfl) ?_
  refine lv_iconst (v := nI (4)) hx hb dL_law_765 (by decide) ?_
  refine lv_irem hx hb dL_law_766 (by decide) ?_
  refine q_top (show (nI (i) - nI (i) / nI (4) * nI (4)) = nI (i % 4) from pk_rem (by omega) (by decide) (by decide)) ?_
  refine lv_iconst (v := nI (3)) hx hb dL_law_767 (by decide) ?_
  refine q_icmp_lt (u := ((i % 4 : Nat) : Int)) (v := ((3 : Nat) : Int)) (tgt := 784) hx hb dL_law_768 (by decide) (nI_toInt (by omega)) (nI_toInt (by omega)) (fun c_768 => ?_) (fun c_768 => ?_)
  · skip
    refine lv_iconst (v := nI (1)) hx hb dL_law_784 (by decide) ?_
    refine lv_goto (tgt := 789) hx hb dL_law_785 (by decide) ?_
    refine lv_istore (lv' := [(5, .int (nI (1))), (0, .ref (b)), (1, .ref (ad 0)), (2, .ref (q0)), (3, .ref (q1)), (4, .ref (q2)), (6, .int (nI (i))), (9, .int (nI (y)))]) hx hb dL_law_789 hl (by decide) rfl (fun ls hl => ?_)
    refine lv_iinc (v := nI (i + 1)) (lv' := [(6, .int (nI (i + 1))), (5, .int (nI (1))), (0, .ref (b)), (1, .ref (ad 0)), (2, .ref (q0)), (3, .ref (q1)), (4, .ref (q2)), (9, .int (nI (y)))]) hx hb dL_law_791 hl (k := 6) rfl (show nI (i) + Int32.ofInt 1 = nI (i + 1) from nI_add (i) 1) (by decide) rfl (fun ls hl => ?_)
    refine lv_goto (tgt := 46) hx hb dL_law_794 (by decide) ?_
    refine W.widen (k := 200 + 80 * (i + 1)) (n := 1000 + 500 * (i + 1)) (by omega) (by omega) ?_
    have hP : va_P D vwCl ((wF cI cZ cQ ad (pat) (sent) (rep) (kept) (rc) (los) (wai) (set) (bad) (gon) (bk) (bp) (bv) (ck) (cp) (cv) (ek) (em)) ++ (wT cI q0 q1 q2 (nA bk pat sent rc rep kept) dat (rA los wai set bad gon))) H := hP
    have hD : va_D (fun q : Nat => s.heap.size ≤ q) ((wF cI cZ cQ ad (pat) (sent) (rep) (kept) (rc) (los) (wai) (set) (bad) (gon) (bk) (bp) (bv) (ck) (cp) (cv) (ek) (em)) ++ (wT cI q0 q1 q2 (nA bk pat sent rc rep kept) dat (rA los wai set bad gon))) := hD
    exact knx pat sent rep kept rc los wai set bad gon bk bp bv ck cp cv ek em dat hJ H locs hP hD hS ls (lv_sub hl [2, 3, 4, 5, 6, 1, 0] rfl)
  · skip
    refine lv_aload_n hx hb dL_law_771 rfl (lv_at hl 1 rfl) ?_
    refine lv_aload_n hx hb dL_law_772 rfl (lv_at hl 2 rfl) ?_
    refine lv_aload_n hx hb dL_law_773 rfl (lv_at hl 3 rfl) ?_
    refine lv_aload hx hb dL_law_774 (lv_at hl 4 rfl) ?_
    refine lv_iload hx hb dL_law_776 (lv_at hl 7 rfl) ?_
    refine j_ci (wc := ((wF cI cZ cQ ad (pat) (sent) (rep) (kept) (rc) (los) (wai) (set) (bad) (gon) (bk) (bp) (bv) (ck) (cp) (cv) (ek) (em)) ++ (wT cI q0 q1 q2 (nA bk pat sent rc rep kept) dat (rA los wai set bad gon)))) (pl := []) (w1 := fun u9 => u9) (va_runS (As := [.ref (ad 0), .ref (q0), .ref (q1), .ref (q2), .int (nI (y))]) (rest := []) ⟨hx, hb, hml, hown, hts⟩ (c_L_isSender l D cI cZ cQ cL hfl s.heap.size ad pat sent rep kept rc los wai set bad gon bk bp bv ck cp cv ek em q0 q1 q2 dat (y) H.size hrc hset hgon hbk hbk1 hbp hbv (by omega) (by omega) (by omega) hbad (by omega) (j_b0 hD hS.1)) (va_cwS 5 hts gL_law_L_isSender rfl rfl rfl hd_L_isSender ⟨Nat.le_of_ble_eq_true rfl, Nat.le_of_ble_eq_true rfl⟩) (PX_s hP hK hD hN hXK hS.2.1) rfl rfl hl.1 rfl (lv_room (Nat.le_of_ble_eq_true rfl)) dL_law_778 ⟨by show _ ≤ 659595; omega, by show _ ≤ 7122396; omega⟩) (by rw [List.append_nil]; exact hP) (by rw [List.append_nil]; exact hD) hS hA (fun r_778 u_778 H locs hq_778 hP hD hS => ?_)
    obtain ⟨rfl, ck, cp, cv, ek, em, rfl⟩ := hq_778
    rw [List.append_nil] at hP hD
    have hP : va_P D vwCl ((wF cI cZ cQ ad (pat) (sent) (rep) (kept) (rc) (los) (wai) (set) (bad) (gon) (bk) (bp) (bv) (ck) (cp) (cv) (ek) (em)) ++ (wT cI q0 q1 q2 (nA bk pat sent rc rep kept) dat (rA los wai set bad gon))) H := hP
    have hD : va_D (fun q : Nat => s.heap.size ≤ q) ((wF cI cZ cQ ad (pat) (sent) (rep) (kept) (rc) (los) (wai) (set) (bad) (gon) (bk) (bp) (bv) (ck) (cp) (cv) (ek) (em)) ++ (wT cI q0 q1 q2 (nA bk pat sent rc rep kept) dat (rA los wai set bad gon))) := hD
    refine q_if_eq (u := ((1 : Nat) : Int)) (tgt := 788) hx hb dL_law_781 (by decide) (nI_toInt (by omega)) (fun c_781 => absurd c_781 (by decide)) (fun _ => ?_)
    refine lv_iconst (v := nI (1)) hx hb dL_law_784 (by decide) ?_
    refine lv_goto (tgt := 789) hx hb dL_law_785 (by decide) ?_
    refine lv_istore (lv' := [(5, .int (nI (1))), (0, .ref (b)), (1, .ref (ad 0)), (2, .ref (q0)), (3, .ref (q1)), (4, .ref (q2)), (6, .int (nI (i))), (9, .int (nI (y)))]) hx hb dL_law_789 hl (by decide) rfl (fun ls hl => ?_)
    refine lv_iinc (v := nI (i + 1)) (lv' := [(6, .int (nI (i + 1))), (5, .int (nI (1))), (0, .ref (b)), (1, .ref (ad 0)), (2, .ref (q0)), (3, .ref (q1)), (4, .ref (q2)), (9, .int (nI (y)))]) hx hb dL_law_791 hl (k := 6) rfl (show nI (i) + Int32.ofInt 1 = nI (i + 1) from nI_add (i) 1) (by decide) rfl (fun ls hl => ?_)
    refine lv_goto (tgt := 46) hx hb dL_law_794 (by decide) ?_
    refine W.widen (k := 200 + 80 * (i + 1)) (n := 1000 + 500 * (i + 1)) (by omega) (by omega) ?_
    have hP : va_P D vwCl ((wF cI cZ cQ ad (pat) (sent) (rep) (kept) (rc) (los) (wai) (set) (bad) (gon) (bk) (bp) (bv) (ck) (cp) (cv) (ek) (em)) ++ (wT cI q0 q1 q2 (nA bk pat sent rc rep kept) dat (rA los wai set bad gon))) H := hP
    have hD : va_D (fun q : Nat => s.heap.size ≤ q) ((wF cI cZ cQ ad (pat) (sent) (rep) (kept) (rc) (los) (wai) (set) (bad) (gon) (bk) (bp) (bv) (ck) (cp) (cv) (ek) (em)) ++ (wT cI q0 q1 q2 (nA bk pat sent rc rep kept) dat (rA los wai set bad gon))) := hD
    exact knx pat sent rep kept rc los wai set bad gon bk bp bv ck cp cv ek em dat hJ H locs hP hD hS ls (lv_sub hl [2, 3, 4, 5, 6, 1, 0] rfl)

set_option maxHeartbeats 16000000 in
set_option maxRecDepth 100000 in
theorem law_170 {p : Program} {l : Launch} {e : Env} {s : State} {m : MethodId} {below : List Frame} {meth : Method} {c : Code} {b L : Nat} {xs : Nat → Int32} {D : va_G} {cI cZ cQ cL : ClassId} {Q : State → Prop} (hfl : l.stackTraces = false) (hL : L ≤ 260) (hx : p.tables.exec = Jvm.exec) (hb : c.code = cL_law) (hml : c.maxLocals = 15) (hown : s.vm.findClass RL = some m.cls) (hts : ∀ w ∈ wsL_law, w.before #[Value.ref b] s = true) (hXs : va_X b L xs s s.heap) (hbl : b < s.heap.size) (hK : va_K D vwCl (TY cI cZ cQ cL) s) (hN : NK s) (hXK : XK s.heap.size s) {q0 q1 q2 : Nat} {ad : Nat → Nat} (i y : Nat) (hi : i < 120) (hy : y < 2 ^ 30) (kk : LN p l e s m below meth c b D cI cZ cQ Q q0 q1 q2 ad (i + 1) [(0, .ref (b)), (1, .ref (ad 0)), (2, .ref (q0)), (3, .ref (q1)), (4, .ref (q2)), (5, .int (nI (1))), (6, .int (nI (i))), (9, .int (nI (y)))] (200 + 80 * i + 5) (1000 + 500 * i + 40) 758) (pat : Nat) (sent : Nat) (rep : Nat) (kept : Nat) (rc : Nat) (los : Nat → Nat) (wai : Nat → Nat) (set : Nat → Nat) (bad : Nat → Nat) (gon : Nat → Nat) (bk : Nat) (bp : Nat → B8) (bv : Nat → B8) (ck : Nat) (cp : Nat → B8) (cv : Nat → B8) (ek : Nat) (em : Nat → Nat → B8) (dat : Nat → B8) (hJ : LJ i bk pat sent rep kept rc los wai set bad gon bp bv dat) (kd rv lo : Nat) (hkd : kd < 18) (hrv : 0 < rc → rv < rc) (hlo : lo ≤ 2047) (H : Heap) (locs : List Loc) (hP : va_P D vwCl ((wF cI cZ cQ ad (pat) (sent) (rep) (kept) (rc) (los) (wai) (set) (bad) (gon) (bk) (bp) (bv) (ck) (cp) (cv) (ek) (em)) ++ (wT cI q0 q1 q2 (nA bk pat sent rc rep kept) dat (rA los wai set bad gon))) H) (hD : va_D (fun q : Nat => s.heap.size ≤ q) ((wF cI cZ cQ ad (pat) (sent) (rep) (kept) (rc) (los) (wai) (set) (bad) (gon) (bk) (bp) (bv) (ck) (cp) (cv) (ek) (em)) ++ (wT cI q0 q1 q2 (nA bk pat sent rc rep kept) dat (rA los wai set bad gon)))) (hS : va_S (fun q : Nat => s.heap.size ≤ q) s.heap H locs) (ls : Array Slot) (hl : lv_has ls 15 [(0, .ref (b)), (1, .ref (ad 0)), (2, .ref (q0)), (3, .ref (q1)), (4, .ref (q2)), (5, .int (nI (1))), (6, .int (nI (i))), (8, .int (nI (kd))), (9, .int (nI (y))), (10, .int (nI (rv))), (11, .int (nI (lo)))]) : W p l e room_1 s m #[Value.ref b] below meth c H locs (200 + 80 * i) (1000 + 500 * i) Q (F0 m 170 ls []) := by
  have hA : ∀ q : Nat, s.heap.size ≤ q → (fun q : Nat => s.heap.size ≤ q) q := fun _ h => h
  have hbA : ¬ (fun q : Nat => s.heap.size ≤ q) b := Nat.not_le.mpr hbl
  obtain ⟨⟨hrc, hlos, hwai, hset, hbad, hgon, hbk, hpa, hse, hbp, hbv, hlv, hp1⟩, hbk1, hs16, hr6, hk6⟩ := id hJ
  refine lv_iload hx hb dL_law_170 (lv_at hl 6 rfl) ?_
  refine q_if_eq (u := ((i : Nat) : Int)) (tgt := 187) hx hb dL_law_172 (by decide) (nI_toInt (by omega)) (fun c_172 => ?_) (fun c_172 => ?_)
  · skip
    have hP : va_P D vwCl ((wF cI cZ cQ ad (pat) (sent) (rep) (kept) (rc) (los) (wai) (set) (bad) (gon) (bk) (bp) (bv) (ck) (cp) (cv) (ek) (em)) ++ (wT cI q0 q1 q2 (nA bk pat sent rc rep kept) dat (rA los wai set bad gon))) H := hP
    have hD : va_D (fun q : Nat => s.heap.size ≤ q) ((wF cI cZ cQ ad (pat) (sent) (rep) (kept) (rc) (los) (wai) (set) (bad) (gon) (bk) (bp) (bv) (ck) (cp) (cv) (ek) (em)) ++ (wT cI q0 q1 q2 (nA bk pat sent rc rep kept) dat (rA los wai set bad gon))) := hD
    exact law_A hfl hL hx hb hml hown hts hXs hbl hK hN hXK i y hi hy kk pat sent rep kept rc los wai set bad gon bk bp bv ck cp cv ek em dat hJ   H locs hP hD hS ls (lv_sub hl [0, 1, 2, 3, 4, 5, 6, 8] rfl)
  · skip
    refine lv_iload hx hb dL_law_175 (lv_at hl 7 rfl) ?_
    refine q_if_ne (u := ((kd : Nat) : Int)) (tgt := 284) hx hb dL_law_177 (by decide) (nI_toInt (by omega)) (fun c_177 => ?_) (fun c_177 => ?_)
    · skip
      refine lv_iload hx hb dL_law_284 (lv_at hl 7 rfl) ?_
      refine lv_iconst (v := nI (4)) hx hb dL_law_286 (by decide) ?_
      refine q_icmp_ge (u := ((kd : Nat) : Int)) (v := ((4 : Nat) : Int)) (tgt := 365) hx hb dL_law_287 (by decide) (nI_toInt (by omega)) (nI_toInt (by omega)) (fun c_287 => ?_) (fun c_287 => ?_)
      · skip
        refine lv_iload hx hb dL_law_365 (lv_at hl 7 rfl) ?_
        refine lv_bipush (v := nI (7)) hx hb dL_law_367 (by decide) ?_
        refine q_icmp_ge (u := ((kd : Nat) : Int)) (v := ((7 : Nat) : Int)) (tgt := 500) hx hb dL_law_369 (by decide) (nI_toInt (by omega)) (nI_toInt (by omega)) (fun c_369 => ?_) (fun c_369 => ?_)
        · skip
          refine lv_iload hx hb dL_law_500 (lv_at hl 7 rfl) ?_
          refine lv_bipush (v := nI (7)) hx hb dL_law_502 (by decide) ?_
          refine q_icmp_ne (u := ((kd : Nat) : Int)) (v := ((7 : Nat) : Int)) (tgt := 550) hx hb dL_law_504 (by decide) (nI_toInt (by omega)) (nI_toInt (by omega)) (fun c_504 => ?_) (fun c_504 => ?_)
          · skip
            refine lv_iload hx hb dL_law_550 (lv_at hl 7 rfl) ?_
            refine lv_bipush (v := nI (8)) hx hb dL_law_552 (by decide) ?_
            refine q_icmp_ne (u := ((kd : Nat) : Int)) (v := ((8 : Nat) : Int)) (tgt := 624) hx hb dL_law_554 (by decide) (nI_toInt (by omega)) (nI_toInt (by omega)) (fun c_554 => ?_) (fun c_554 => ?_)
            · skip
              refine lv_iload hx hb dL_law_624 (lv_at hl 7 rfl) ?_
              refine lv_bipush (v := nI (12)) hx hb dL_law_626 (by decide) ?_
              refine q_icmp_ge (u := ((kd : Nat) : Int)) (v := ((12 : Nat) : Int)) (tgt := 735) hx hb dL_law_628 (by decide) (nI_toInt (by omega)) (nI_toInt (by omega)) (fun c_628 => ?_) (fun c_628 => ?_)
              · skip
                have hP : va_P D vwCl ((wF cI cZ cQ ad (pat) (sent) (rep) (kept) (rc) (los) (wai) (set) (bad) (gon) (bk) (bp) (bv) (ck) (cp) (cv) (ek) (em)) ++ (wT cI q0 q1 q2 (nA bk pat sent rc rep kept) dat (rA los wai set bad gon))) H := hP
                have hD : va_D (fun q : Nat => s.heap.size ≤ q) ((wF cI cZ cQ ad (pat) (sent) (rep) (kept) (rc) (los) (wai) (set) (bad) (gon) (bk) (bp) (bv) (ck) (cp) (cv) (ek) (em)) ++ (wT cI q0 q1 q2 (nA bk pat sent rc rep kept) dat (rA los wai set bad gon))) := hD
                exact law_G hfl hL hx hb hml hown hts hXs hbl hK hN hXK i y hi hy kk pat sent rep kept rc los wai set bad gon bk bp bv ck cp cv ek em dat hJ   H locs hP hD hS ls (lv_sub hl [0, 1, 2, 3, 4, 5, 6, 8] rfl)
              · skip
                refine lv_iconst (v := nI (1)) hx hb dL_law_631 (by decide) ?_
                refine lv_iload hx hb dL_law_632 (lv_at hl 8 rfl) ?_
                refine lv_iload hx hb dL_law_634 (lv_at hl 8 rfl) ?_
                refine lv_iconst (v := nI (5)) hx hb dL_law_636 (by decide) ?_
                refine lv_irem hx hb dL_law_637 (by decide) ?_
                refine q_top (show (nI (y) - nI (y) / nI (5) * nI (5)) = nI (y % 5) from pk_rem (by omega) (by decide) (by decide)) ?_
                refine q_if_ne (u := ((y % 5 : Nat) : Int)) (tgt := 646) hx hb dL_law_638 (by decide) (nI_toInt (by omega)) (fun c_638 => ?_) (fun c_638 => ?_)
                · skip
                  refine lv_iconst (v := nI (3)) hx hb dL_law_646 (by decide) ?_
                  refine lv_irem hx hb dL_law_647 (by decide) ?_
                  refine q_top (show (nI (y) - nI (y) / nI (3) * nI (3)) = nI (y % 3) from pk_rem (by omega) (by decide) (by decide)) ?_
                  refine lv_iadd hx hb dL_law_648 ?_
                  refine q_top (show (nI (1) + nI (y % 3)) = nI (1 + (y % 3)) from nI_add _ _) ?_
                  refine lv_istore (lv' := [(12, .int (nI (1 + (y % 3)))), (0, .ref (b)), (1, .ref (ad 0)), (2, .ref (q0)), (3, .ref (q1)), (4, .ref (q2)), (5, .int (nI (1))), (6, .int (nI (i))), (8, .int (nI (kd))), (9, .int (nI (y))), (10, .int (nI (rv))), (11, .int (nI (lo)))]) hx hb dL_law_649 hl (by decide) rfl (fun ls hl => ?_)
                  have hP : va_P D vwCl ((wF cI cZ cQ ad (pat) (sent) (rep) (kept) (rc) (los) (wai) (set) (bad) (gon) (bk) (bp) (bv) (ck) (cp) (cv) (ek) (em)) ++ (wT cI q0 q1 q2 (nA bk pat sent rc rep kept) dat (rA los wai set bad gon))) H := hP
                  have hD : va_D (fun q : Nat => s.heap.size ≤ q) ((wF cI cZ cQ ad (pat) (sent) (rep) (kept) (rc) (los) (wai) (set) (bad) (gon) (bk) (bp) (bv) (ck) (cp) (cv) (ek) (em)) ++ (wT cI q0 q1 q2 (nA bk pat sent rc rep kept) dat (rA los wai set bad gon))) := hD
                  exact law_F2 hfl hL hx hb hml hown hts hXs hbl hK hN hXK i y hi hy kk pat sent rep kept rc los wai set bad gon bk bp bv ck cp cv ek em dat hJ (1 + (y % 3)) (by omega) (by omega) H locs hP hD hS ls (lv_sub hl [1, 2, 3, 4, 5, 6, 7, 9, 0] rfl)
                · skip
                  refine lv_bipush (v := nI (16)) hx hb dL_law_641 (by decide) ?_
                  refine lv_goto (tgt := 647) hx hb dL_law_643 (by decide) ?_
                  refine lv_irem hx hb dL_law_647 (by decide) ?_
                  refine q_top (show (nI (y) - nI (y) / nI (16) * nI (16)) = nI (y % 16) from pk_rem (by omega) (by decide) (by decide)) ?_
                  refine lv_iadd hx hb dL_law_648 ?_
                  refine q_top (show (nI (1) + nI (y % 16)) = nI (1 + (y % 16)) from nI_add _ _) ?_
                  refine lv_istore (lv' := [(12, .int (nI (1 + (y % 16)))), (0, .ref (b)), (1, .ref (ad 0)), (2, .ref (q0)), (3, .ref (q1)), (4, .ref (q2)), (5, .int (nI (1))), (6, .int (nI (i))), (8, .int (nI (kd))), (9, .int (nI (y))), (10, .int (nI (rv))), (11, .int (nI (lo)))]) hx hb dL_law_649 hl (by decide) rfl (fun ls hl => ?_)
                  have hP : va_P D vwCl ((wF cI cZ cQ ad (pat) (sent) (rep) (kept) (rc) (los) (wai) (set) (bad) (gon) (bk) (bp) (bv) (ck) (cp) (cv) (ek) (em)) ++ (wT cI q0 q1 q2 (nA bk pat sent rc rep kept) dat (rA los wai set bad gon))) H := hP
                  have hD : va_D (fun q : Nat => s.heap.size ≤ q) ((wF cI cZ cQ ad (pat) (sent) (rep) (kept) (rc) (los) (wai) (set) (bad) (gon) (bk) (bp) (bv) (ck) (cp) (cv) (ek) (em)) ++ (wT cI q0 q1 q2 (nA bk pat sent rc rep kept) dat (rA los wai set bad gon))) := hD
                  exact law_F2 hfl hL hx hb hml hown hts hXs hbl hK hN hXK i y hi hy kk pat sent rep kept rc los wai set bad gon bk bp bv ck cp cv ek em dat hJ (1 + (y % 16)) (by omega) (by omega) H locs hP hD hS ls (lv_sub hl [1, 2, 3, 4, 5, 6, 7, 9, 0] rfl)
            · skip
              refine lv_aload_n hx hb dL_law_557 rfl (lv_at hl 2 rfl) ?_
              refine lv_iconst (v := nI (3)) hx hb dL_law_558 (by decide) ?_
              refine q_iald (f := (nA bk pat sent rc rep kept)) (j := 3) hx hb hK (jP_r hP) 0 0 rfl rfl (by decide) (by decide) dL_law_559 ?_
              refine q_top (show nI ((nA bk pat sent rc rep kept) 3) = nI (rc) from rfl) ?_
              refine q_if_le (u := ((rc : Nat) : Int)) (tgt := 624) hx hb dL_law_560 (by decide) (nI_toInt (by omega)) (fun c_560 => ?_) (fun c_560 => ?_)
              · skip
                refine lv_iload hx hb dL_law_624 (lv_at hl 7 rfl) ?_
                refine lv_bipush (v := nI (12)) hx hb dL_law_626 (by decide) ?_
                refine q_icmp_ge (u := ((kd : Nat) : Int)) (v := ((12 : Nat) : Int)) (tgt := 735) hx hb dL_law_628 (by decide) (nI_toInt (by omega)) (nI_toInt (by omega)) (fun c_628 => ?_) (fun c_628 => ?_)
                · skip
                  have hP : va_P D vwCl ((wF cI cZ cQ ad (pat) (sent) (rep) (kept) (rc) (los) (wai) (set) (bad) (gon) (bk) (bp) (bv) (ck) (cp) (cv) (ek) (em)) ++ (wT cI q0 q1 q2 (nA bk pat sent rc rep kept) dat (rA los wai set bad gon))) H := hP
                  have hD : va_D (fun q : Nat => s.heap.size ≤ q) ((wF cI cZ cQ ad (pat) (sent) (rep) (kept) (rc) (los) (wai) (set) (bad) (gon) (bk) (bp) (bv) (ck) (cp) (cv) (ek) (em)) ++ (wT cI q0 q1 q2 (nA bk pat sent rc rep kept) dat (rA los wai set bad gon))) := hD
                  exact law_G hfl hL hx hb hml hown hts hXs hbl hK hN hXK i y hi hy kk pat sent rep kept rc los wai set bad gon bk bp bv ck cp cv ek em dat hJ   H locs hP hD hS ls (lv_sub hl [0, 1, 2, 3, 4, 5, 6, 8] rfl)
                · skip
                  refine lv_iconst (v := nI (1)) hx hb dL_law_631 (by decide) ?_
                  refine lv_iload hx hb dL_law_632 (lv_at hl 8 rfl) ?_
                  refine lv_iload hx hb dL_law_634 (lv_at hl 8 rfl) ?_
                  refine lv_iconst (v := nI (5)) hx hb dL_law_636 (by decide) ?_
                  refine lv_irem hx hb dL_law_637 (by decide) ?_
                  refine q_top (show (nI (y) - nI (y) / nI (5) * nI (5)) = nI (y % 5) from pk_rem (by omega) (by decide) (by decide)) ?_
                  refine q_if_ne (u := ((y % 5 : Nat) : Int)) (tgt := 646) hx hb dL_law_638 (by decide) (nI_toInt (by omega)) (fun c_638 => ?_) (fun c_638 => ?_)
                  · skip
                    refine lv_iconst (v := nI (3)) hx hb dL_law_646 (by decide) ?_
                    refine lv_irem hx hb dL_law_647 (by decide) ?_
                    refine q_top (show (nI (y) - nI (y) / nI (3) * nI (3)) = nI (y % 3) from pk_rem (by omega) (by decide) (by decide)) ?_
                    refine lv_iadd hx hb dL_law_648 ?_
                    refine q_top (show (nI (1) + nI (y % 3)) = nI (1 + (y % 3)) from nI_add _ _) ?_
                    refine lv_istore (lv' := [(12, .int (nI (1 + (y % 3)))), (0, .ref (b)), (1, .ref (ad 0)), (2, .ref (q0)), (3, .ref (q1)), (4, .ref (q2)), (5, .int (nI (1))), (6, .int (nI (i))), (8, .int (nI (kd))), (9, .int (nI (y))), (10, .int (nI (rv))), (11, .int (nI (lo)))]) hx hb dL_law_649 hl (by decide) rfl (fun ls hl => ?_)
                    have hP : va_P D vwCl ((wF cI cZ cQ ad (pat) (sent) (rep) (kept) (rc) (los) (wai) (set) (bad) (gon) (bk) (bp) (bv) (ck) (cp) (cv) (ek) (em)) ++ (wT cI q0 q1 q2 (nA bk pat sent rc rep kept) dat (rA los wai set bad gon))) H := hP
                    have hD : va_D (fun q : Nat => s.heap.size ≤ q) ((wF cI cZ cQ ad (pat) (sent) (rep) (kept) (rc) (los) (wai) (set) (bad) (gon) (bk) (bp) (bv) (ck) (cp) (cv) (ek) (em)) ++ (wT cI q0 q1 q2 (nA bk pat sent rc rep kept) dat (rA los wai set bad gon))) := hD
                    exact law_F2 hfl hL hx hb hml hown hts hXs hbl hK hN hXK i y hi hy kk pat sent rep kept rc los wai set bad gon bk bp bv ck cp cv ek em dat hJ (1 + (y % 3)) (by omega) (by omega) H locs hP hD hS ls (lv_sub hl [1, 2, 3, 4, 5, 6, 7, 9, 0] rfl)
                  · skip
                    refine lv_bipush (v := nI (16)) hx hb dL_law_641 (by decide) ?_
                    refine lv_goto (tgt := 647) hx hb dL_law_643 (by decide) ?_
                    refine lv_irem hx hb dL_law_647 (by decide) ?_
                    refine q_top (show (nI (y) - nI (y) / nI (16) * nI (16)) = nI (y % 16) from pk_rem (by omega) (by decide) (by decide)) ?_
                    refine lv_iadd hx hb dL_law_648 ?_
                    refine q_top (show (nI (1) + nI (y % 16)) = nI (1 + (y % 16)) from nI_add _ _) ?_
                    refine lv_istore (lv' := [(12, .int (nI (1 + (y % 16)))), (0, .ref (b)), (1, .ref (ad 0)), (2, .ref (q0)), (3, .ref (q1)), (4, .ref (q2)), (5, .int (nI (1))), (6, .int (nI (i))), (8, .int (nI (kd))), (9, .int (nI (y))), (10, .int (nI (rv))), (11, .int (nI (lo)))]) hx hb dL_law_649 hl (by decide) rfl (fun ls hl => ?_)
                    have hP : va_P D vwCl ((wF cI cZ cQ ad (pat) (sent) (rep) (kept) (rc) (los) (wai) (set) (bad) (gon) (bk) (bp) (bv) (ck) (cp) (cv) (ek) (em)) ++ (wT cI q0 q1 q2 (nA bk pat sent rc rep kept) dat (rA los wai set bad gon))) H := hP
                    have hD : va_D (fun q : Nat => s.heap.size ≤ q) ((wF cI cZ cQ ad (pat) (sent) (rep) (kept) (rc) (los) (wai) (set) (bad) (gon) (bk) (bp) (bv) (ck) (cp) (cv) (ek) (em)) ++ (wT cI q0 q1 q2 (nA bk pat sent rc rep kept) dat (rA los wai set bad gon))) := hD
                    exact law_F2 hfl hL hx hb hml hown hts hXs hbl hK hN hXK i y hi hy kk pat sent rep kept rc los wai set bad gon bk bp bv ck cp cv ek em dat hJ (1 + (y % 16)) (by omega) (by omega) H locs hP hD hS ls (lv_sub hl [1, 2, 3, 4, 5, 6, 7, 9, 0] rfl)
              · skip
                refine lv_iload hx hb dL_law_563 (lv_at hl 8 rfl) ?_
                refine lv_iconst (v := nI (3)) hx hb dL_law_565 (by decide) ?_
                refine lv_idiv hx hb dL_law_566 (by decide) ?_
                refine q_top (show (nI (y) / nI (3)) = nI (y / 3) from pk_div (by omega) (by decide) (by decide)) ?_
                refine lv_iload hx hb dL_law_567 (lv_at hl 8 rfl) ?_
                refine lv_iconst (v := nI (2)) hx hb dL_law_569 (by decide) ?_
                refine lv_irem hx hb dL_law_570 (by decide) ?_
                refine q_top (show (nI (y) - nI (y) / nI (2) * nI (2)) = nI (y % 2) from pk_rem (by omega) (by decide) (by decide)) ?_
                refine q_if_ne (u := ((y % 2 : Nat) : Int)) (tgt := 579) hx hb dL_law_571 (by decide) (nI_toInt (by omega)) (fun c_571 => ?_) (fun c_571 => ?_)
                · skip
                  refine lv_iconst (v := nI (4)) hx hb dL_law_579 (by decide) ?_
                  refine lv_irem hx hb dL_law_580 (by decide) ?_
                  refine q_top (show (nI (y / 3) - nI (y / 3) / nI (4) * nI (4)) = nI ((y / 3) % 4) from pk_rem (by omega) (by decide) (by decide)) ?_
                  refine lv_istore (lv' := [(12, .int (nI ((y / 3) % 4))), (0, .ref (b)), (1, .ref (ad 0)), (2, .ref (q0)), (3, .ref (q1)), (4, .ref (q2)), (5, .int (nI (1))), (6, .int (nI (i))), (8, .int (nI (kd))), (9, .int (nI (y))), (10, .int (nI (rv))), (11, .int (nI (lo)))]) hx hb dL_law_581 hl (by decide) rfl (fun ls hl => ?_)
                  have hP : va_P D vwCl ((wF cI cZ cQ ad (pat) (sent) (rep) (kept) (rc) (los) (wai) (set) (bad) (gon) (bk) (bp) (bv) (ck) (cp) (cv) (ek) (em)) ++ (wT cI q0 q1 q2 (nA bk pat sent rc rep kept) dat (rA los wai set bad gon))) H := hP
                  have hD : va_D (fun q : Nat => s.heap.size ≤ q) ((wF cI cZ cQ ad (pat) (sent) (rep) (kept) (rc) (los) (wai) (set) (bad) (gon) (bk) (bp) (bv) (ck) (cp) (cv) (ek) (em)) ++ (wT cI q0 q1 q2 (nA bk pat sent rc rep kept) dat (rA los wai set bad gon))) := hD
                  exact law_E2 hfl hL hx hb hml hown hts hXs hbl hK hN hXK i y hi hy kk pat sent rep kept rc los wai set bad gon bk bp bv ck cp cv ek em dat hJ rv ((y / 3) % 4) (hrv (by omega)) (by omega) H locs hP hD hS ls (lv_sub hl [1, 2, 3, 4, 5, 6, 7, 9, 10, 0] rfl)
                · skip
                  refine lv_bipush (v := nI (21)) hx hb dL_law_574 (by decide) ?_
                  refine lv_goto (tgt := 580) hx hb dL_law_576 (by decide) ?_
                  refine lv_irem hx hb dL_law_580 (by decide) ?_
                  refine q_top (show (nI (y / 3) - nI (y / 3) / nI (21) * nI (21)) = nI ((y / 3) % 21) from pk_rem (by omega) (by decide) (by decide)) ?_
                  refine lv_istore (lv' := [(12, .int (nI ((y / 3) % 21))), (0, .ref (b)), (1, .ref (ad 0)), (2, .ref (q0)), (3, .ref (q1)), (4, .ref (q2)), (5, .int (nI (1))), (6, .int (nI (i))), (8, .int (nI (kd))), (9, .int (nI (y))), (10, .int (nI (rv))), (11, .int (nI (lo)))]) hx hb dL_law_581 hl (by decide) rfl (fun ls hl => ?_)
                  have hP : va_P D vwCl ((wF cI cZ cQ ad (pat) (sent) (rep) (kept) (rc) (los) (wai) (set) (bad) (gon) (bk) (bp) (bv) (ck) (cp) (cv) (ek) (em)) ++ (wT cI q0 q1 q2 (nA bk pat sent rc rep kept) dat (rA los wai set bad gon))) H := hP
                  have hD : va_D (fun q : Nat => s.heap.size ≤ q) ((wF cI cZ cQ ad (pat) (sent) (rep) (kept) (rc) (los) (wai) (set) (bad) (gon) (bk) (bp) (bv) (ck) (cp) (cv) (ek) (em)) ++ (wT cI q0 q1 q2 (nA bk pat sent rc rep kept) dat (rA los wai set bad gon))) := hD
                  exact law_E2 hfl hL hx hb hml hown hts hXs hbl hK hN hXK i y hi hy kk pat sent rep kept rc los wai set bad gon bk bp bv ck cp cv ek em dat hJ rv ((y / 3) % 21) (hrv (by omega)) (by omega) H locs hP hD hS ls (lv_sub hl [1, 2, 3, 4, 5, 6, 7, 9, 10, 0] rfl)
          · skip
            refine lv_aload_n hx hb dL_law_507 rfl (lv_at hl 2 rfl) ?_
            refine lv_iconst (v := nI (3)) hx hb dL_law_508 (by decide) ?_
            refine q_iald (f := (nA bk pat sent rc rep kept)) (j := 3) hx hb hK (jP_r hP) 0 0 rfl rfl (by decide) (by decide) dL_law_509 ?_
            refine q_top (show nI ((nA bk pat sent rc rep kept) 3) = nI (rc) from rfl) ?_
            refine q_if_le (u := ((rc : Nat) : Int)) (tgt := 550) hx hb dL_law_510 (by decide) (nI_toInt (by omega)) (fun c_510 => ?_) (fun c_510 => ?_)
            · skip
              refine lv_iload hx hb dL_law_550 (lv_at hl 7 rfl) ?_
              refine lv_bipush (v := nI (8)) hx hb dL_law_552 (by decide) ?_
              refine q_icmp_ne (u := ((kd : Nat) : Int)) (v := ((8 : Nat) : Int)) (tgt := 624) hx hb dL_law_554 (by decide) (nI_toInt (by omega)) (nI_toInt (by omega)) (fun c_554 => ?_) (fun c_554 => ?_)
              · skip
                refine lv_iload hx hb dL_law_624 (lv_at hl 7 rfl) ?_
                refine lv_bipush (v := nI (12)) hx hb dL_law_626 (by decide) ?_
                refine q_icmp_ge (u := ((kd : Nat) : Int)) (v := ((12 : Nat) : Int)) (tgt := 735) hx hb dL_law_628 (by decide) (nI_toInt (by omega)) (nI_toInt (by omega)) (fun c_628 => ?_) (fun c_628 => ?_)
                · skip
                  have hP : va_P D vwCl ((wF cI cZ cQ ad (pat) (sent) (rep) (kept) (rc) (los) (wai) (set) (bad) (gon) (bk) (bp) (bv) (ck) (cp) (cv) (ek) (em)) ++ (wT cI q0 q1 q2 (nA bk pat sent rc rep kept) dat (rA los wai set bad gon))) H := hP
                  have hD : va_D (fun q : Nat => s.heap.size ≤ q) ((wF cI cZ cQ ad (pat) (sent) (rep) (kept) (rc) (los) (wai) (set) (bad) (gon) (bk) (bp) (bv) (ck) (cp) (cv) (ek) (em)) ++ (wT cI q0 q1 q2 (nA bk pat sent rc rep kept) dat (rA los wai set bad gon))) := hD
                  exact law_G hfl hL hx hb hml hown hts hXs hbl hK hN hXK i y hi hy kk pat sent rep kept rc los wai set bad gon bk bp bv ck cp cv ek em dat hJ   H locs hP hD hS ls (lv_sub hl [0, 1, 2, 3, 4, 5, 6, 8] rfl)
                · skip
                  refine lv_iconst (v := nI (1)) hx hb dL_law_631 (by decide) ?_
                  refine lv_iload hx hb dL_law_632 (lv_at hl 8 rfl) ?_
                  refine lv_iload hx hb dL_law_634 (lv_at hl 8 rfl) ?_
                  refine lv_iconst (v := nI (5)) hx hb dL_law_636 (by decide) ?_
                  refine lv_irem hx hb dL_law_637 (by decide) ?_
                  refine q_top (show (nI (y) - nI (y) / nI (5) * nI (5)) = nI (y % 5) from pk_rem (by omega) (by decide) (by decide)) ?_
                  refine q_if_ne (u := ((y % 5 : Nat) : Int)) (tgt := 646) hx hb dL_law_638 (by decide) (nI_toInt (by omega)) (fun c_638 => ?_) (fun c_638 => ?_)
                  · skip
                    refine lv_iconst (v := nI (3)) hx hb dL_law_646 (by decide) ?_
                    refine lv_irem hx hb dL_law_647 (by decide) ?_
                    refine q_top (show (nI (y) - nI (y) / nI (3) * nI (3)) = nI (y % 3) from pk_rem (by omega) (by decide) (by decide)) ?_
                    refine lv_iadd hx hb dL_law_648 ?_
                    refine q_top (show (nI (1) + nI (y % 3)) = nI (1 + (y % 3)) from nI_add _ _) ?_
                    refine lv_istore (lv' := [(12, .int (nI (1 + (y % 3)))), (0, .ref (b)), (1, .ref (ad 0)), (2, .ref (q0)), (3, .ref (q1)), (4, .ref (q2)), (5, .int (nI (1))), (6, .int (nI (i))), (8, .int (nI (kd))), (9, .int (nI (y))), (10, .int (nI (rv))), (11, .int (nI (lo)))]) hx hb dL_law_649 hl (by decide) rfl (fun ls hl => ?_)
                    have hP : va_P D vwCl ((wF cI cZ cQ ad (pat) (sent) (rep) (kept) (rc) (los) (wai) (set) (bad) (gon) (bk) (bp) (bv) (ck) (cp) (cv) (ek) (em)) ++ (wT cI q0 q1 q2 (nA bk pat sent rc rep kept) dat (rA los wai set bad gon))) H := hP
                    have hD : va_D (fun q : Nat => s.heap.size ≤ q) ((wF cI cZ cQ ad (pat) (sent) (rep) (kept) (rc) (los) (wai) (set) (bad) (gon) (bk) (bp) (bv) (ck) (cp) (cv) (ek) (em)) ++ (wT cI q0 q1 q2 (nA bk pat sent rc rep kept) dat (rA los wai set bad gon))) := hD
                    exact law_F2 hfl hL hx hb hml hown hts hXs hbl hK hN hXK i y hi hy kk pat sent rep kept rc los wai set bad gon bk bp bv ck cp cv ek em dat hJ (1 + (y % 3)) (by omega) (by omega) H locs hP hD hS ls (lv_sub hl [1, 2, 3, 4, 5, 6, 7, 9, 0] rfl)
                  · skip
                    refine lv_bipush (v := nI (16)) hx hb dL_law_641 (by decide) ?_
                    refine lv_goto (tgt := 647) hx hb dL_law_643 (by decide) ?_
                    refine lv_irem hx hb dL_law_647 (by decide) ?_
                    refine q_top (show (nI (y) - nI (y) / nI (16) * nI (16)) = nI (y % 16) from pk_rem (by omega) (by decide) (by decide)) ?_
                    refine lv_iadd hx hb dL_law_648 ?_
                    refine q_top (show (nI (1) + nI (y % 16)) = nI (1 + (y % 16)) from nI_add _ _) ?_
                    refine lv_istore (lv' := [(12, .int (nI (1 + (y % 16)))), (0, .ref (b)), (1, .ref (ad 0)), (2, .ref (q0)), (3, .ref (q1)), (4, .ref (q2)), (5, .int (nI (1))), (6, .int (nI (i))), (8, .int (nI (kd))), (9, .int (nI (y))), (10, .int (nI (rv))), (11, .int (nI (lo)))]) hx hb dL_law_649 hl (by decide) rfl (fun ls hl => ?_)
                    have hP : va_P D vwCl ((wF cI cZ cQ ad (pat) (sent) (rep) (kept) (rc) (los) (wai) (set) (bad) (gon) (bk) (bp) (bv) (ck) (cp) (cv) (ek) (em)) ++ (wT cI q0 q1 q2 (nA bk pat sent rc rep kept) dat (rA los wai set bad gon))) H := hP
                    have hD : va_D (fun q : Nat => s.heap.size ≤ q) ((wF cI cZ cQ ad (pat) (sent) (rep) (kept) (rc) (los) (wai) (set) (bad) (gon) (bk) (bp) (bv) (ck) (cp) (cv) (ek) (em)) ++ (wT cI q0 q1 q2 (nA bk pat sent rc rep kept) dat (rA los wai set bad gon))) := hD
                    exact law_F2 hfl hL hx hb hml hown hts hXs hbl hK hN hXK i y hi hy kk pat sent rep kept rc los wai set bad gon bk bp bv ck cp cv ek em dat hJ (1 + (y % 16)) (by omega) (by omega) H locs hP hD hS ls (lv_sub hl [1, 2, 3, 4, 5, 6, 7, 9, 0] rfl)
              · skip
                refine lv_aload_n hx hb dL_law_557 rfl (lv_at hl 2 rfl) ?_
                refine lv_iconst (v := nI (3)) hx hb dL_law_558 (by decide) ?_
                refine q_iald (f := (nA bk pat sent rc rep kept)) (j := 3) hx hb hK (jP_r hP) 0 0 rfl rfl (by decide) (by decide) dL_law_559 ?_
                refine q_top (show nI ((nA bk pat sent rc rep kept) 3) = nI (rc) from rfl) ?_
                refine q_if_le (u := ((rc : Nat) : Int)) (tgt := 624) hx hb dL_law_560 (by decide) (nI_toInt (by omega)) (fun c_560 => ?_) (fun c_560 => ?_)
                · skip
                  refine lv_iload hx hb dL_law_624 (lv_at hl 7 rfl) ?_
                  refine lv_bipush (v := nI (12)) hx hb dL_law_626 (by decide) ?_
                  refine q_icmp_ge (u := ((kd : Nat) : Int)) (v := ((12 : Nat) : Int)) (tgt := 735) hx hb dL_law_628 (by decide) (nI_toInt (by omega)) (nI_toInt (by omega)) (fun c_628 => ?_) (fun c_628 => ?_)
                  · skip
                    have hP : va_P D vwCl ((wF cI cZ cQ ad (pat) (sent) (rep) (kept) (rc) (los) (wai) (set) (bad) (gon) (bk) (bp) (bv) (ck) (cp) (cv) (ek) (em)) ++ (wT cI q0 q1 q2 (nA bk pat sent rc rep kept) dat (rA los wai set bad gon))) H := hP
                    have hD : va_D (fun q : Nat => s.heap.size ≤ q) ((wF cI cZ cQ ad (pat) (sent) (rep) (kept) (rc) (los) (wai) (set) (bad) (gon) (bk) (bp) (bv) (ck) (cp) (cv) (ek) (em)) ++ (wT cI q0 q1 q2 (nA bk pat sent rc rep kept) dat (rA los wai set bad gon))) := hD
                    exact law_G hfl hL hx hb hml hown hts hXs hbl hK hN hXK i y hi hy kk pat sent rep kept rc los wai set bad gon bk bp bv ck cp cv ek em dat hJ   H locs hP hD hS ls (lv_sub hl [0, 1, 2, 3, 4, 5, 6, 8] rfl)
                  · skip
                    refine lv_iconst (v := nI (1)) hx hb dL_law_631 (by decide) ?_
                    refine lv_iload hx hb dL_law_632 (lv_at hl 8 rfl) ?_
                    refine lv_iload hx hb dL_law_634 (lv_at hl 8 rfl) ?_
                    refine lv_iconst (v := nI (5)) hx hb dL_law_636 (by decide) ?_
                    refine lv_irem hx hb dL_law_637 (by decide) ?_
                    refine q_top (show (nI (y) - nI (y) / nI (5) * nI (5)) = nI (y % 5) from pk_rem (by omega) (by decide) (by decide)) ?_
                    refine q_if_ne (u := ((y % 5 : Nat) : Int)) (tgt := 646) hx hb dL_law_638 (by decide) (nI_toInt (by omega)) (fun c_638 => ?_) (fun c_638 => ?_)
                    · skip
                      refine lv_iconst (v := nI (3)) hx hb dL_law_646 (by decide) ?_
                      refine lv_irem hx hb dL_law_647 (by decide) ?_
                      refine q_top (show (nI (y) - nI (y) / nI (3) * nI (3)) = nI (y % 3) from pk_rem (by omega) (by decide) (by decide)) ?_
                      refine lv_iadd hx hb dL_law_648 ?_
                      refine q_top (show (nI (1) + nI (y % 3)) = nI (1 + (y % 3)) from nI_add _ _) ?_
                      refine lv_istore (lv' := [(12, .int (nI (1 + (y % 3)))), (0, .ref (b)), (1, .ref (ad 0)), (2, .ref (q0)), (3, .ref (q1)), (4, .ref (q2)), (5, .int (nI (1))), (6, .int (nI (i))), (8, .int (nI (kd))), (9, .int (nI (y))), (10, .int (nI (rv))), (11, .int (nI (lo)))]) hx hb dL_law_649 hl (by decide) rfl (fun ls hl => ?_)
                      have hP : va_P D vwCl ((wF cI cZ cQ ad (pat) (sent) (rep) (kept) (rc) (los) (wai) (set) (bad) (gon) (bk) (bp) (bv) (ck) (cp) (cv) (ek) (em)) ++ (wT cI q0 q1 q2 (nA bk pat sent rc rep kept) dat (rA los wai set bad gon))) H := hP
                      have hD : va_D (fun q : Nat => s.heap.size ≤ q) ((wF cI cZ cQ ad (pat) (sent) (rep) (kept) (rc) (los) (wai) (set) (bad) (gon) (bk) (bp) (bv) (ck) (cp) (cv) (ek) (em)) ++ (wT cI q0 q1 q2 (nA bk pat sent rc rep kept) dat (rA los wai set bad gon))) := hD
                      exact law_F2 hfl hL hx hb hml hown hts hXs hbl hK hN hXK i y hi hy kk pat sent rep kept rc los wai set bad gon bk bp bv ck cp cv ek em dat hJ (1 + (y % 3)) (by omega) (by omega) H locs hP hD hS ls (lv_sub hl [1, 2, 3, 4, 5, 6, 7, 9, 0] rfl)
                    · skip
                      refine lv_bipush (v := nI (16)) hx hb dL_law_641 (by decide) ?_
                      refine lv_goto (tgt := 647) hx hb dL_law_643 (by decide) ?_
                      refine lv_irem hx hb dL_law_647 (by decide) ?_
                      refine q_top (show (nI (y) - nI (y) / nI (16) * nI (16)) = nI (y % 16) from pk_rem (by omega) (by decide) (by decide)) ?_
                      refine lv_iadd hx hb dL_law_648 ?_
                      refine q_top (show (nI (1) + nI (y % 16)) = nI (1 + (y % 16)) from nI_add _ _) ?_
                      refine lv_istore (lv' := [(12, .int (nI (1 + (y % 16)))), (0, .ref (b)), (1, .ref (ad 0)), (2, .ref (q0)), (3, .ref (q1)), (4, .ref (q2)), (5, .int (nI (1))), (6, .int (nI (i))), (8, .int (nI (kd))), (9, .int (nI (y))), (10, .int (nI (rv))), (11, .int (nI (lo)))]) hx hb dL_law_649 hl (by decide) rfl (fun ls hl => ?_)
                      have hP : va_P D vwCl ((wF cI cZ cQ ad (pat) (sent) (rep) (kept) (rc) (los) (wai) (set) (bad) (gon) (bk) (bp) (bv) (ck) (cp) (cv) (ek) (em)) ++ (wT cI q0 q1 q2 (nA bk pat sent rc rep kept) dat (rA los wai set bad gon))) H := hP
                      have hD : va_D (fun q : Nat => s.heap.size ≤ q) ((wF cI cZ cQ ad (pat) (sent) (rep) (kept) (rc) (los) (wai) (set) (bad) (gon) (bk) (bp) (bv) (ck) (cp) (cv) (ek) (em)) ++ (wT cI q0 q1 q2 (nA bk pat sent rc rep kept) dat (rA los wai set bad gon))) := hD
                      exact law_F2 hfl hL hx hb hml hown hts hXs hbl hK hN hXK i y hi hy kk pat sent rep kept rc los wai set bad gon bk bp bv ck cp cv ek em dat hJ (1 + (y % 16)) (by omega) (by omega) H locs hP hD hS ls (lv_sub hl [1, 2, 3, 4, 5, 6, 7, 9, 0] rfl)
                · skip
                  refine lv_iload hx hb dL_law_563 (lv_at hl 8 rfl) ?_
                  refine lv_iconst (v := nI (3)) hx hb dL_law_565 (by decide) ?_
                  refine lv_idiv hx hb dL_law_566 (by decide) ?_
                  refine q_top (show (nI (y) / nI (3)) = nI (y / 3) from pk_div (by omega) (by decide) (by decide)) ?_
                  refine lv_iload hx hb dL_law_567 (lv_at hl 8 rfl) ?_
                  refine lv_iconst (v := nI (2)) hx hb dL_law_569 (by decide) ?_
                  refine lv_irem hx hb dL_law_570 (by decide) ?_
                  refine q_top (show (nI (y) - nI (y) / nI (2) * nI (2)) = nI (y % 2) from pk_rem (by omega) (by decide) (by decide)) ?_
                  refine q_if_ne (u := ((y % 2 : Nat) : Int)) (tgt := 579) hx hb dL_law_571 (by decide) (nI_toInt (by omega)) (fun c_571 => ?_) (fun c_571 => ?_)
                  · skip
                    refine lv_iconst (v := nI (4)) hx hb dL_law_579 (by decide) ?_
                    refine lv_irem hx hb dL_law_580 (by decide) ?_
                    refine q_top (show (nI (y / 3) - nI (y / 3) / nI (4) * nI (4)) = nI ((y / 3) % 4) from pk_rem (by omega) (by decide) (by decide)) ?_
                    refine lv_istore (lv' := [(12, .int (nI ((y / 3) % 4))), (0, .ref (b)), (1, .ref (ad 0)), (2, .ref (q0)), (3, .ref (q1)), (4, .ref (q2)), (5, .int (nI (1))), (6, .int (nI (i))), (8, .int (nI (kd))), (9, .int (nI (y))), (10, .int (nI (rv))), (11, .int (nI (lo)))]) hx hb dL_law_581 hl (by decide) rfl (fun ls hl => ?_)
                    have hP : va_P D vwCl ((wF cI cZ cQ ad (pat) (sent) (rep) (kept) (rc) (los) (wai) (set) (bad) (gon) (bk) (bp) (bv) (ck) (cp) (cv) (ek) (em)) ++ (wT cI q0 q1 q2 (nA bk pat sent rc rep kept) dat (rA los wai set bad gon))) H := hP
                    have hD : va_D (fun q : Nat => s.heap.size ≤ q) ((wF cI cZ cQ ad (pat) (sent) (rep) (kept) (rc) (los) (wai) (set) (bad) (gon) (bk) (bp) (bv) (ck) (cp) (cv) (ek) (em)) ++ (wT cI q0 q1 q2 (nA bk pat sent rc rep kept) dat (rA los wai set bad gon))) := hD
                    exact law_E2 hfl hL hx hb hml hown hts hXs hbl hK hN hXK i y hi hy kk pat sent rep kept rc los wai set bad gon bk bp bv ck cp cv ek em dat hJ rv ((y / 3) % 4) (hrv (by omega)) (by omega) H locs hP hD hS ls (lv_sub hl [1, 2, 3, 4, 5, 6, 7, 9, 10, 0] rfl)
                  · skip
                    refine lv_bipush (v := nI (21)) hx hb dL_law_574 (by decide) ?_
                    refine lv_goto (tgt := 580) hx hb dL_law_576 (by decide) ?_
                    refine lv_irem hx hb dL_law_580 (by decide) ?_
                    refine q_top (show (nI (y / 3) - nI (y / 3) / nI (21) * nI (21)) = nI ((y / 3) % 21) from pk_rem (by omega) (by decide) (by decide)) ?_
                    refine lv_istore (lv' := [(12, .int (nI ((y / 3) % 21))), (0, .ref (b)), (1, .ref (ad 0)), (2, .ref (q0)), (3, .ref (q1)), (4, .ref (q2)), (5, .int (nI (1))), (6, .int (nI (i))), (8, .int (nI (kd))), (9, .int (nI (y))), (10, .int (nI (rv))), (11, .int (nI (lo)))]) hx hb dL_law_581 hl (by decide) rfl (fun ls hl => ?_)
                    have hP : va_P D vwCl ((wF cI cZ cQ ad (pat) (sent) (rep) (kept) (rc) (los) (wai) (set) (bad) (gon) (bk) (bp) (bv) (ck) (cp) (cv) (ek) (em)) ++ (wT cI q0 q1 q2 (nA bk pat sent rc rep kept) dat (rA los wai set bad gon))) H := hP
                    have hD : va_D (fun q : Nat => s.heap.size ≤ q) ((wF cI cZ cQ ad (pat) (sent) (rep) (kept) (rc) (los) (wai) (set) (bad) (gon) (bk) (bp) (bv) (ck) (cp) (cv) (ek) (em)) ++ (wT cI q0 q1 q2 (nA bk pat sent rc rep kept) dat (rA los wai set bad gon))) := hD
                    exact law_E2 hfl hL hx hb hml hown hts hXs hbl hK hN hXK i y hi hy kk pat sent rep kept rc los wai set bad gon bk bp bv ck cp cv ek em dat hJ rv ((y / 3) % 21) (hrv (by omega)) (by omega) H locs hP hD hS ls (lv_sub hl [1, 2, 3, 4, 5, 6, 7, 9, 10, 0] rfl)
            · skip
              have hP : va_P D vwCl ((wF cI cZ cQ ad (pat) (sent) (rep) (kept) (rc) (los) (wai) (set) (bad) (gon) (bk) (bp) (bv) (ck) (cp) (cv) (ek) (em)) ++ (wT cI q0 q1 q2 (nA bk pat sent rc rep kept) dat (rA los wai set bad gon))) H := hP
              have hD : va_D (fun q : Nat => s.heap.size ≤ q) ((wF cI cZ cQ ad (pat) (sent) (rep) (kept) (rc) (los) (wai) (set) (bad) (gon) (bk) (bp) (bv) (ck) (cp) (cv) (ek) (em)) ++ (wT cI q0 q1 q2 (nA bk pat sent rc rep kept) dat (rA los wai set bad gon))) := hD
              exact law_D hfl hL hx hb hml hown hts hXs hbl hK hN hXK i y hi hy kk pat sent rep kept rc los wai set bad gon bk bp bv ck cp cv ek em dat hJ rv lo (hrv (by omega)) hlo H locs hP hD hS ls (lv_sub hl [0, 1, 2, 3, 4, 5, 6, 8, 9, 10] rfl)
        · skip
          refine lv_iload hx hb dL_law_372 (lv_at hl 8 rfl) ?_
          refine lv_iconst (v := nI (3)) hx hb dL_law_374 (by decide) ?_
          refine lv_idiv hx hb dL_law_375 (by decide) ?_
          refine q_top (show (nI (y) / nI (3)) = nI (y / 3) from pk_div (by omega) (by decide) (by decide)) ?_
          refine lv_iload hx hb dL_law_376 (lv_at hl 8 rfl) ?_
          refine lv_iconst (v := nI (2)) hx hb dL_law_378 (by decide) ?_
          refine lv_irem hx hb dL_law_379 (by decide) ?_
          refine q_top (show (nI (y) - nI (y) / nI (2) * nI (2)) = nI (y % 2) from pk_rem (by omega) (by decide) (by decide)) ?_
          refine q_if_ne (u := ((y % 2 : Nat) : Int)) (tgt := 388) hx hb dL_law_380 (by decide) (nI_toInt (by omega)) (fun c_380 => ?_) (fun c_380 => ?_)
          · skip
            refine lv_iconst (v := nI (4)) hx hb dL_law_388 (by decide) ?_
            refine lv_irem hx hb dL_law_389 (by decide) ?_
            refine q_top (show (nI (y / 3) - nI (y / 3) / nI (4) * nI (4)) = nI ((y / 3) % 4) from pk_rem (by omega) (by decide) (by decide)) ?_
            refine lv_istore (lv' := [(12, .int (nI ((y / 3) % 4))), (0, .ref (b)), (1, .ref (ad 0)), (2, .ref (q0)), (3, .ref (q1)), (4, .ref (q2)), (5, .int (nI (1))), (6, .int (nI (i))), (8, .int (nI (kd))), (9, .int (nI (y))), (10, .int (nI (rv))), (11, .int (nI (lo)))]) hx hb dL_law_390 hl (by decide) rfl (fun ls hl => ?_)
            have hP : va_P D vwCl ((wF cI cZ cQ ad (pat) (sent) (rep) (kept) (rc) (los) (wai) (set) (bad) (gon) (bk) (bp) (bv) (ck) (cp) (cv) (ek) (em)) ++ (wT cI q0 q1 q2 (nA bk pat sent rc rep kept) dat (rA los wai set bad gon))) H := hP
            have hD : va_D (fun q : Nat => s.heap.size ≤ q) ((wF cI cZ cQ ad (pat) (sent) (rep) (kept) (rc) (los) (wai) (set) (bad) (gon) (bk) (bp) (bv) (ck) (cp) (cv) (ek) (em)) ++ (wT cI q0 q1 q2 (nA bk pat sent rc rep kept) dat (rA los wai set bad gon))) := hD
            exact law_C2 hfl hL hx hb hml hown hts hXs hbl hK hN hXK i y hi hy kk pat sent rep kept rc los wai set bad gon bk bp bv ck cp cv ek em dat hJ lo ((y / 3) % 4) hlo (by omega) H locs hP hD hS ls (lv_sub hl [1, 2, 3, 4, 5, 6, 7, 9, 11, 0] rfl)
          · skip
            refine lv_bipush (v := nI (21)) hx hb dL_law_383 (by decide) ?_
            refine lv_goto (tgt := 389) hx hb dL_law_385 (by decide) ?_
            refine lv_irem hx hb dL_law_389 (by decide) ?_
            refine q_top (show (nI (y / 3) - nI (y / 3) / nI (21) * nI (21)) = nI ((y / 3) % 21) from pk_rem (by omega) (by decide) (by decide)) ?_
            refine lv_istore (lv' := [(12, .int (nI ((y / 3) % 21))), (0, .ref (b)), (1, .ref (ad 0)), (2, .ref (q0)), (3, .ref (q1)), (4, .ref (q2)), (5, .int (nI (1))), (6, .int (nI (i))), (8, .int (nI (kd))), (9, .int (nI (y))), (10, .int (nI (rv))), (11, .int (nI (lo)))]) hx hb dL_law_390 hl (by decide) rfl (fun ls hl => ?_)
            have hP : va_P D vwCl ((wF cI cZ cQ ad (pat) (sent) (rep) (kept) (rc) (los) (wai) (set) (bad) (gon) (bk) (bp) (bv) (ck) (cp) (cv) (ek) (em)) ++ (wT cI q0 q1 q2 (nA bk pat sent rc rep kept) dat (rA los wai set bad gon))) H := hP
            have hD : va_D (fun q : Nat => s.heap.size ≤ q) ((wF cI cZ cQ ad (pat) (sent) (rep) (kept) (rc) (los) (wai) (set) (bad) (gon) (bk) (bp) (bv) (ck) (cp) (cv) (ek) (em)) ++ (wT cI q0 q1 q2 (nA bk pat sent rc rep kept) dat (rA los wai set bad gon))) := hD
            exact law_C2 hfl hL hx hb hml hown hts hXs hbl hK hN hXK i y hi hy kk pat sent rep kept rc los wai set bad gon bk bp bv ck cp cv ek em dat hJ lo ((y / 3) % 21) hlo (by omega) H locs hP hD hS ls (lv_sub hl [1, 2, 3, 4, 5, 6, 7, 9, 11, 0] rfl)
      · skip
        have hP : va_P D vwCl ((wF cI cZ cQ ad (pat) (sent) (rep) (kept) (rc) (los) (wai) (set) (bad) (gon) (bk) (bp) (bv) (ck) (cp) (cv) (ek) (em)) ++ (wT cI q0 q1 q2 (nA bk pat sent rc rep kept) dat (rA los wai set bad gon))) H := hP
        have hD : va_D (fun q : Nat => s.heap.size ≤ q) ((wF cI cZ cQ ad (pat) (sent) (rep) (kept) (rc) (los) (wai) (set) (bad) (gon) (bk) (bp) (bv) (ck) (cp) (cv) (ek) (em)) ++ (wT cI q0 q1 q2 (nA bk pat sent rc rep kept) dat (rA los wai set bad gon))) := hD
        exact law_B hfl hL hx hb hml hown hts hXs hbl hK hN hXK i y hi hy kk pat sent rep kept rc los wai set bad gon bk bp bv ck cp cv ek em dat hJ   H locs hP hD hS ls (lv_sub hl [0, 1, 2, 3, 4, 5, 6, 8] rfl)
    · skip
      refine lv_iload hx hb dL_law_180 (lv_at hl 8 rfl) ?_
      refine lv_iconst (v := nI (4)) hx hb dL_law_182 (by decide) ?_
      refine lv_irem hx hb dL_law_183 (by decide) ?_
      refine q_top (show (nI (y) - nI (y) / nI (4) * nI (4)) = nI (y % 4) from pk_rem (by omega) (by decide) (by decide)) ?_
      refine q_if_ne (u := ((y % 4 : Nat) : Int)) (tgt := 284) hx hb dL_law_184 (by decide) (nI_toInt (by omega)) (fun c_184 => ?_) (fun c_184 => ?_)
      · skip
        refine lv_iload hx hb dL_law_284 (lv_at hl 7 rfl) ?_
        refine lv_iconst (v := nI (4)) hx hb dL_law_286 (by decide) ?_
        refine q_icmp_ge (u := ((kd : Nat) : Int)) (v := ((4 : Nat) : Int)) (tgt := 365) hx hb dL_law_287 (by decide) (nI_toInt (by omega)) (nI_toInt (by omega)) (fun c_287 => ?_) (fun c_287 => ?_)
        · skip
          refine lv_iload hx hb dL_law_365 (lv_at hl 7 rfl) ?_
          refine lv_bipush (v := nI (7)) hx hb dL_law_367 (by decide) ?_
          refine q_icmp_ge (u := ((kd : Nat) : Int)) (v := ((7 : Nat) : Int)) (tgt := 500) hx hb dL_law_369 (by decide) (nI_toInt (by omega)) (nI_toInt (by omega)) (fun c_369 => ?_) (fun c_369 => ?_)
          · skip
            refine lv_iload hx hb dL_law_500 (lv_at hl 7 rfl) ?_
            refine lv_bipush (v := nI (7)) hx hb dL_law_502 (by decide) ?_
            refine q_icmp_ne (u := ((kd : Nat) : Int)) (v := ((7 : Nat) : Int)) (tgt := 550) hx hb dL_law_504 (by decide) (nI_toInt (by omega)) (nI_toInt (by omega)) (fun c_504 => ?_) (fun c_504 => ?_)
            · skip
              refine lv_iload hx hb dL_law_550 (lv_at hl 7 rfl) ?_
              refine lv_bipush (v := nI (8)) hx hb dL_law_552 (by decide) ?_
              refine q_icmp_ne (u := ((kd : Nat) : Int)) (v := ((8 : Nat) : Int)) (tgt := 624) hx hb dL_law_554 (by decide) (nI_toInt (by omega)) (nI_toInt (by omega)) (fun c_554 => ?_) (fun c_554 => ?_)
              · skip
                refine lv_iload hx hb dL_law_624 (lv_at hl 7 rfl) ?_
                refine lv_bipush (v := nI (12)) hx hb dL_law_626 (by decide) ?_
                refine q_icmp_ge (u := ((kd : Nat) : Int)) (v := ((12 : Nat) : Int)) (tgt := 735) hx hb dL_law_628 (by decide) (nI_toInt (by omega)) (nI_toInt (by omega)) (fun c_628 => ?_) (fun c_628 => ?_)
                · skip
                  have hP : va_P D vwCl ((wF cI cZ cQ ad (pat) (sent) (rep) (kept) (rc) (los) (wai) (set) (bad) (gon) (bk) (bp) (bv) (ck) (cp) (cv) (ek) (em)) ++ (wT cI q0 q1 q2 (nA bk pat sent rc rep kept) dat (rA los wai set bad gon))) H := hP
                  have hD : va_D (fun q : Nat => s.heap.size ≤ q) ((wF cI cZ cQ ad (pat) (sent) (rep) (kept) (rc) (los) (wai) (set) (bad) (gon) (bk) (bp) (bv) (ck) (cp) (cv) (ek) (em)) ++ (wT cI q0 q1 q2 (nA bk pat sent rc rep kept) dat (rA los wai set bad gon))) := hD
                  exact law_G hfl hL hx hb hml hown hts hXs hbl hK hN hXK i y hi hy kk pat sent rep kept rc los wai set bad gon bk bp bv ck cp cv ek em dat hJ   H locs hP hD hS ls (lv_sub hl [0, 1, 2, 3, 4, 5, 6, 8] rfl)
                · skip
                  refine lv_iconst (v := nI (1)) hx hb dL_law_631 (by decide) ?_
                  refine lv_iload hx hb dL_law_632 (lv_at hl 8 rfl) ?_
                  refine lv_iload hx hb dL_law_634 (lv_at hl 8 rfl) ?_
                  refine lv_iconst (v := nI (5)) hx hb dL_law_636 (by decide) ?_
                  refine lv_irem hx hb dL_law_637 (by decide) ?_
                  refine q_top (show (nI (y) - nI (y) / nI (5) * nI (5)) = nI (y % 5) from pk_rem (by omega) (by decide) (by decide)) ?_
                  refine q_if_ne (u := ((y % 5 : Nat) : Int)) (tgt := 646) hx hb dL_law_638 (by decide) (nI_toInt (by omega)) (fun c_638 => ?_) (fun c_638 => ?_)
                  · skip
                    refine lv_iconst (v := nI (3)) hx hb dL_law_646 (by decide) ?_
                    refine lv_irem hx hb dL_law_647 (by decide) ?_
                    refine q_top (show (nI (y) - nI (y) / nI (3) * nI (3)) = nI (y % 3) from pk_rem (by omega) (by decide) (by decide)) ?_
                    refine lv_iadd hx hb dL_law_648 ?_
                    refine q_top (show (nI (1) + nI (y % 3)) = nI (1 + (y % 3)) from nI_add _ _) ?_
                    refine lv_istore (lv' := [(12, .int (nI (1 + (y % 3)))), (0, .ref (b)), (1, .ref (ad 0)), (2, .ref (q0)), (3, .ref (q1)), (4, .ref (q2)), (5, .int (nI (1))), (6, .int (nI (i))), (8, .int (nI (kd))), (9, .int (nI (y))), (10, .int (nI (rv))), (11, .int (nI (lo)))]) hx hb dL_law_649 hl (by decide) rfl (fun ls hl => ?_)
                    have hP : va_P D vwCl ((wF cI cZ cQ ad (pat) (sent) (rep) (kept) (rc) (los) (wai) (set) (bad) (gon) (bk) (bp) (bv) (ck) (cp) (cv) (ek) (em)) ++ (wT cI q0 q1 q2 (nA bk pat sent rc rep kept) dat (rA los wai set bad gon))) H := hP
                    have hD : va_D (fun q : Nat => s.heap.size ≤ q) ((wF cI cZ cQ ad (pat) (sent) (rep) (kept) (rc) (los) (wai) (set) (bad) (gon) (bk) (bp) (bv) (ck) (cp) (cv) (ek) (em)) ++ (wT cI q0 q1 q2 (nA bk pat sent rc rep kept) dat (rA los wai set bad gon))) := hD
                    exact law_F2 hfl hL hx hb hml hown hts hXs hbl hK hN hXK i y hi hy kk pat sent rep kept rc los wai set bad gon bk bp bv ck cp cv ek em dat hJ (1 + (y % 3)) (by omega) (by omega) H locs hP hD hS ls (lv_sub hl [1, 2, 3, 4, 5, 6, 7, 9, 0] rfl)
                  · skip
                    refine lv_bipush (v := nI (16)) hx hb dL_law_641 (by decide) ?_
                    refine lv_goto (tgt := 647) hx hb dL_law_643 (by decide) ?_
                    refine lv_irem hx hb dL_law_647 (by decide) ?_
                    refine q_top (show (nI (y) - nI (y) / nI (16) * nI (16)) = nI (y % 16) from pk_rem (by omega) (by decide) (by decide)) ?_
                    refine lv_iadd hx hb dL_law_648 ?_
                    refine q_top (show (nI (1) + nI (y % 16)) = nI (1 + (y % 16)) from nI_add _ _) ?_
                    refine lv_istore (lv' := [(12, .int (nI (1 + (y % 16)))), (0, .ref (b)), (1, .ref (ad 0)), (2, .ref (q0)), (3, .ref (q1)), (4, .ref (q2)), (5, .int (nI (1))), (6, .int (nI (i))), (8, .int (nI (kd))), (9, .int (nI (y))), (10, .int (nI (rv))), (11, .int (nI (lo)))]) hx hb dL_law_649 hl (by decide) rfl (fun ls hl => ?_)
                    have hP : va_P D vwCl ((wF cI cZ cQ ad (pat) (sent) (rep) (kept) (rc) (los) (wai) (set) (bad) (gon) (bk) (bp) (bv) (ck) (cp) (cv) (ek) (em)) ++ (wT cI q0 q1 q2 (nA bk pat sent rc rep kept) dat (rA los wai set bad gon))) H := hP
                    have hD : va_D (fun q : Nat => s.heap.size ≤ q) ((wF cI cZ cQ ad (pat) (sent) (rep) (kept) (rc) (los) (wai) (set) (bad) (gon) (bk) (bp) (bv) (ck) (cp) (cv) (ek) (em)) ++ (wT cI q0 q1 q2 (nA bk pat sent rc rep kept) dat (rA los wai set bad gon))) := hD
                    exact law_F2 hfl hL hx hb hml hown hts hXs hbl hK hN hXK i y hi hy kk pat sent rep kept rc los wai set bad gon bk bp bv ck cp cv ek em dat hJ (1 + (y % 16)) (by omega) (by omega) H locs hP hD hS ls (lv_sub hl [1, 2, 3, 4, 5, 6, 7, 9, 0] rfl)
              · skip
                refine lv_aload_n hx hb dL_law_557 rfl (lv_at hl 2 rfl) ?_
                refine lv_iconst (v := nI (3)) hx hb dL_law_558 (by decide) ?_
                refine q_iald (f := (nA bk pat sent rc rep kept)) (j := 3) hx hb hK (jP_r hP) 0 0 rfl rfl (by decide) (by decide) dL_law_559 ?_
                refine q_top (show nI ((nA bk pat sent rc rep kept) 3) = nI (rc) from rfl) ?_
                refine q_if_le (u := ((rc : Nat) : Int)) (tgt := 624) hx hb dL_law_560 (by decide) (nI_toInt (by omega)) (fun c_560 => ?_) (fun c_560 => ?_)
                · skip
                  refine lv_iload hx hb dL_law_624 (lv_at hl 7 rfl) ?_
                  refine lv_bipush (v := nI (12)) hx hb dL_law_626 (by decide) ?_
                  refine q_icmp_ge (u := ((kd : Nat) : Int)) (v := ((12 : Nat) : Int)) (tgt := 735) hx hb dL_law_628 (by decide) (nI_toInt (by omega)) (nI_toInt (by omega)) (fun c_628 => ?_) (fun c_628 => ?_)
                  · skip
                    have hP : va_P D vwCl ((wF cI cZ cQ ad (pat) (sent) (rep) (kept) (rc) (los) (wai) (set) (bad) (gon) (bk) (bp) (bv) (ck) (cp) (cv) (ek) (em)) ++ (wT cI q0 q1 q2 (nA bk pat sent rc rep kept) dat (rA los wai set bad gon))) H := hP
                    have hD : va_D (fun q : Nat => s.heap.size ≤ q) ((wF cI cZ cQ ad (pat) (sent) (rep) (kept) (rc) (los) (wai) (set) (bad) (gon) (bk) (bp) (bv) (ck) (cp) (cv) (ek) (em)) ++ (wT cI q0 q1 q2 (nA bk pat sent rc rep kept) dat (rA los wai set bad gon))) := hD
                    exact law_G hfl hL hx hb hml hown hts hXs hbl hK hN hXK i y hi hy kk pat sent rep kept rc los wai set bad gon bk bp bv ck cp cv ek em dat hJ   H locs hP hD hS ls (lv_sub hl [0, 1, 2, 3, 4, 5, 6, 8] rfl)
                  · skip
                    refine lv_iconst (v := nI (1)) hx hb dL_law_631 (by decide) ?_
                    refine lv_iload hx hb dL_law_632 (lv_at hl 8 rfl) ?_
                    refine lv_iload hx hb dL_law_634 (lv_at hl 8 rfl) ?_
                    refine lv_iconst (v := nI (5)) hx hb dL_law_636 (by decide) ?_
                    refine lv_irem hx hb dL_law_637 (by decide) ?_
                    refine q_top (show (nI (y) - nI (y) / nI (5) * nI (5)) = nI (y % 5) from pk_rem (by omega) (by decide) (by decide)) ?_
                    refine q_if_ne (u := ((y % 5 : Nat) : Int)) (tgt := 646) hx hb dL_law_638 (by decide) (nI_toInt (by omega)) (fun c_638 => ?_) (fun c_638 => ?_)
                    · skip
                      refine lv_iconst (v := nI (3)) hx hb dL_law_646 (by decide) ?_
                      refine lv_irem hx hb dL_law_647 (by decide) ?_
                      refine q_top (show (nI (y) - nI (y) / nI (3) * nI (3)) = nI (y % 3) from pk_rem (by omega) (by decide) (by decide)) ?_
                      refine lv_iadd hx hb dL_law_648 ?_
                      refine q_top (show (nI (1) + nI (y % 3)) = nI (1 + (y % 3)) from nI_add _ _) ?_
                      refine lv_istore (lv' := [(12, .int (nI (1 + (y % 3)))), (0, .ref (b)), (1, .ref (ad 0)), (2, .ref (q0)), (3, .ref (q1)), (4, .ref (q2)), (5, .int (nI (1))), (6, .int (nI (i))), (8, .int (nI (kd))), (9, .int (nI (y))), (10, .int (nI (rv))), (11, .int (nI (lo)))]) hx hb dL_law_649 hl (by decide) rfl (fun ls hl => ?_)
                      have hP : va_P D vwCl ((wF cI cZ cQ ad (pat) (sent) (rep) (kept) (rc) (los) (wai) (set) (bad) (gon) (bk) (bp) (bv) (ck) (cp) (cv) (ek) (em)) ++ (wT cI q0 q1 q2 (nA bk pat sent rc rep kept) dat (rA los wai set bad gon))) H := hP
                      have hD : va_D (fun q : Nat => s.heap.size ≤ q) ((wF cI cZ cQ ad (pat) (sent) (rep) (kept) (rc) (los) (wai) (set) (bad) (gon) (bk) (bp) (bv) (ck) (cp) (cv) (ek) (em)) ++ (wT cI q0 q1 q2 (nA bk pat sent rc rep kept) dat (rA los wai set bad gon))) := hD
                      exact law_F2 hfl hL hx hb hml hown hts hXs hbl hK hN hXK i y hi hy kk pat sent rep kept rc los wai set bad gon bk bp bv ck cp cv ek em dat hJ (1 + (y % 3)) (by omega) (by omega) H locs hP hD hS ls (lv_sub hl [1, 2, 3, 4, 5, 6, 7, 9, 0] rfl)
                    · skip
                      refine lv_bipush (v := nI (16)) hx hb dL_law_641 (by decide) ?_
                      refine lv_goto (tgt := 647) hx hb dL_law_643 (by decide) ?_
                      refine lv_irem hx hb dL_law_647 (by decide) ?_
                      refine q_top (show (nI (y) - nI (y) / nI (16) * nI (16)) = nI (y % 16) from pk_rem (by omega) (by decide) (by decide)) ?_
                      refine lv_iadd hx hb dL_law_648 ?_
                      refine q_top (show (nI (1) + nI (y % 16)) = nI (1 + (y % 16)) from nI_add _ _) ?_
                      refine lv_istore (lv' := [(12, .int (nI (1 + (y % 16)))), (0, .ref (b)), (1, .ref (ad 0)), (2, .ref (q0)), (3, .ref (q1)), (4, .ref (q2)), (5, .int (nI (1))), (6, .int (nI (i))), (8, .int (nI (kd))), (9, .int (nI (y))), (10, .int (nI (rv))), (11, .int (nI (lo)))]) hx hb dL_law_649 hl (by decide) rfl (fun ls hl => ?_)
                      have hP : va_P D vwCl ((wF cI cZ cQ ad (pat) (sent) (rep) (kept) (rc) (los) (wai) (set) (bad) (gon) (bk) (bp) (bv) (ck) (cp) (cv) (ek) (em)) ++ (wT cI q0 q1 q2 (nA bk pat sent rc rep kept) dat (rA los wai set bad gon))) H := hP
                      have hD : va_D (fun q : Nat => s.heap.size ≤ q) ((wF cI cZ cQ ad (pat) (sent) (rep) (kept) (rc) (los) (wai) (set) (bad) (gon) (bk) (bp) (bv) (ck) (cp) (cv) (ek) (em)) ++ (wT cI q0 q1 q2 (nA bk pat sent rc rep kept) dat (rA los wai set bad gon))) := hD
                      exact law_F2 hfl hL hx hb hml hown hts hXs hbl hK hN hXK i y hi hy kk pat sent rep kept rc los wai set bad gon bk bp bv ck cp cv ek em dat hJ (1 + (y % 16)) (by omega) (by omega) H locs hP hD hS ls (lv_sub hl [1, 2, 3, 4, 5, 6, 7, 9, 0] rfl)
                · skip
                  refine lv_iload hx hb dL_law_563 (lv_at hl 8 rfl) ?_
                  refine lv_iconst (v := nI (3)) hx hb dL_law_565 (by decide) ?_
                  refine lv_idiv hx hb dL_law_566 (by decide) ?_
                  refine q_top (show (nI (y) / nI (3)) = nI (y / 3) from pk_div (by omega) (by decide) (by decide)) ?_
                  refine lv_iload hx hb dL_law_567 (lv_at hl 8 rfl) ?_
                  refine lv_iconst (v := nI (2)) hx hb dL_law_569 (by decide) ?_
                  refine lv_irem hx hb dL_law_570 (by decide) ?_
                  refine q_top (show (nI (y) - nI (y) / nI (2) * nI (2)) = nI (y % 2) from pk_rem (by omega) (by decide) (by decide)) ?_
                  refine q_if_ne (u := ((y % 2 : Nat) : Int)) (tgt := 579) hx hb dL_law_571 (by decide) (nI_toInt (by omega)) (fun c_571 => ?_) (fun c_571 => ?_)
                  · skip
                    refine lv_iconst (v := nI (4)) hx hb dL_law_579 (by decide) ?_
                    refine lv_irem hx hb dL_law_580 (by decide) ?_
                    refine q_top (show (nI (y / 3) - nI (y / 3) / nI (4) * nI (4)) = nI ((y / 3) % 4) from pk_rem (by omega) (by decide) (by decide)) ?_
                    refine lv_istore (lv' := [(12, .int (nI ((y / 3) % 4))), (0, .ref (b)), (1, .ref (ad 0)), (2, .ref (q0)), (3, .ref (q1)), (4, .ref (q2)), (5, .int (nI (1))), (6, .int (nI (i))), (8, .int (nI (kd))), (9, .int (nI (y))), (10, .int (nI (rv))), (11, .int (nI (lo)))]) hx hb dL_law_581 hl (by decide) rfl (fun ls hl => ?_)
                    have hP : va_P D vwCl ((wF cI cZ cQ ad (pat) (sent) (rep) (kept) (rc) (los) (wai) (set) (bad) (gon) (bk) (bp) (bv) (ck) (cp) (cv) (ek) (em)) ++ (wT cI q0 q1 q2 (nA bk pat sent rc rep kept) dat (rA los wai set bad gon))) H := hP
                    have hD : va_D (fun q : Nat => s.heap.size ≤ q) ((wF cI cZ cQ ad (pat) (sent) (rep) (kept) (rc) (los) (wai) (set) (bad) (gon) (bk) (bp) (bv) (ck) (cp) (cv) (ek) (em)) ++ (wT cI q0 q1 q2 (nA bk pat sent rc rep kept) dat (rA los wai set bad gon))) := hD
                    exact law_E2 hfl hL hx hb hml hown hts hXs hbl hK hN hXK i y hi hy kk pat sent rep kept rc los wai set bad gon bk bp bv ck cp cv ek em dat hJ rv ((y / 3) % 4) (hrv (by omega)) (by omega) H locs hP hD hS ls (lv_sub hl [1, 2, 3, 4, 5, 6, 7, 9, 10, 0] rfl)
                  · skip
                    refine lv_bipush (v := nI (21)) hx hb dL_law_574 (by decide) ?_
                    refine lv_goto (tgt := 580) hx hb dL_law_576 (by decide) ?_
                    refine lv_irem hx hb dL_law_580 (by decide) ?_
                    refine q_top (show (nI (y / 3) - nI (y / 3) / nI (21) * nI (21)) = nI ((y / 3) % 21) from pk_rem (by omega) (by decide) (by decide)) ?_
                    refine lv_istore (lv' := [(12, .int (nI ((y / 3) % 21))), (0, .ref (b)), (1, .ref (ad 0)), (2, .ref (q0)), (3, .ref (q1)), (4, .ref (q2)), (5, .int (nI (1))), (6, .int (nI (i))), (8, .int (nI (kd))), (9, .int (nI (y))), (10, .int (nI (rv))), (11, .int (nI (lo)))]) hx hb dL_law_581 hl (by decide) rfl (fun ls hl => ?_)
                    have hP : va_P D vwCl ((wF cI cZ cQ ad (pat) (sent) (rep) (kept) (rc) (los) (wai) (set) (bad) (gon) (bk) (bp) (bv) (ck) (cp) (cv) (ek) (em)) ++ (wT cI q0 q1 q2 (nA bk pat sent rc rep kept) dat (rA los wai set bad gon))) H := hP
                    have hD : va_D (fun q : Nat => s.heap.size ≤ q) ((wF cI cZ cQ ad (pat) (sent) (rep) (kept) (rc) (los) (wai) (set) (bad) (gon) (bk) (bp) (bv) (ck) (cp) (cv) (ek) (em)) ++ (wT cI q0 q1 q2 (nA bk pat sent rc rep kept) dat (rA los wai set bad gon))) := hD
                    exact law_E2 hfl hL hx hb hml hown hts hXs hbl hK hN hXK i y hi hy kk pat sent rep kept rc los wai set bad gon bk bp bv ck cp cv ek em dat hJ rv ((y / 3) % 21) (hrv (by omega)) (by omega) H locs hP hD hS ls (lv_sub hl [1, 2, 3, 4, 5, 6, 7, 9, 10, 0] rfl)
            · skip
              refine lv_aload_n hx hb dL_law_507 rfl (lv_at hl 2 rfl) ?_
              refine lv_iconst (v := nI (3)) hx hb dL_law_508 (by decide) ?_
              refine q_iald (f := (nA bk pat sent rc rep kept)) (j := 3) hx hb hK (jP_r hP) 0 0 rfl rfl (by decide) (by decide) dL_law_509 ?_
              refine q_top (show nI ((nA bk pat sent rc rep kept) 3) = nI (rc) from rfl) ?_
              refine q_if_le (u := ((rc : Nat) : Int)) (tgt := 550) hx hb dL_law_510 (by decide) (nI_toInt (by omega)) (fun c_510 => ?_) (fun c_510 => ?_)
              · skip
                refine lv_iload hx hb dL_law_550 (lv_at hl 7 rfl) ?_
                refine lv_bipush (v := nI (8)) hx hb dL_law_552 (by decide) ?_
                refine q_icmp_ne (u := ((kd : Nat) : Int)) (v := ((8 : Nat) : Int)) (tgt := 624) hx hb dL_law_554 (by decide) (nI_toInt (by omega)) (nI_toInt (by omega)) (fun c_554 => ?_) (fun c_554 => ?_)
                · skip
                  refine lv_iload hx hb dL_law_624 (lv_at hl 7 rfl) ?_
                  refine lv_bipush (v := nI (12)) hx hb dL_law_626 (by decide) ?_
                  refine q_icmp_ge (u := ((kd : Nat) : Int)) (v := ((12 : Nat) : Int)) (tgt := 735) hx hb dL_law_628 (by decide) (nI_toInt (by omega)) (nI_toInt (by omega)) (fun c_628 => ?_) (fun c_628 => ?_)
                  · skip
                    have hP : va_P D vwCl ((wF cI cZ cQ ad (pat) (sent) (rep) (kept) (rc) (los) (wai) (set) (bad) (gon) (bk) (bp) (bv) (ck) (cp) (cv) (ek) (em)) ++ (wT cI q0 q1 q2 (nA bk pat sent rc rep kept) dat (rA los wai set bad gon))) H := hP
                    have hD : va_D (fun q : Nat => s.heap.size ≤ q) ((wF cI cZ cQ ad (pat) (sent) (rep) (kept) (rc) (los) (wai) (set) (bad) (gon) (bk) (bp) (bv) (ck) (cp) (cv) (ek) (em)) ++ (wT cI q0 q1 q2 (nA bk pat sent rc rep kept) dat (rA los wai set bad gon))) := hD
                    exact law_G hfl hL hx hb hml hown hts hXs hbl hK hN hXK i y hi hy kk pat sent rep kept rc los wai set bad gon bk bp bv ck cp cv ek em dat hJ   H locs hP hD hS ls (lv_sub hl [0, 1, 2, 3, 4, 5, 6, 8] rfl)
                  · skip
                    refine lv_iconst (v := nI (1)) hx hb dL_law_631 (by decide) ?_
                    refine lv_iload hx hb dL_law_632 (lv_at hl 8 rfl) ?_
                    refine lv_iload hx hb dL_law_634 (lv_at hl 8 rfl) ?_
                    refine lv_iconst (v := nI (5)) hx hb dL_law_636 (by decide) ?_
                    refine lv_irem hx hb dL_law_637 (by decide) ?_
                    refine q_top (show (nI (y) - nI (y) / nI (5) * nI (5)) = nI (y % 5) from pk_rem (by omega) (by decide) (by decide)) ?_
                    refine q_if_ne (u := ((y % 5 : Nat) : Int)) (tgt := 646) hx hb dL_law_638 (by decide) (nI_toInt (by omega)) (fun c_638 => ?_) (fun c_638 => ?_)
                    · skip
                      refine lv_iconst (v := nI (3)) hx hb dL_law_646 (by decide) ?_
                      refine lv_irem hx hb dL_law_647 (by decide) ?_
                      refine q_top (show (nI (y) - nI (y) / nI (3) * nI (3)) = nI (y % 3) from pk_rem (by omega) (by decide) (by decide)) ?_
                      refine lv_iadd hx hb dL_law_648 ?_
                      refine q_top (show (nI (1) + nI (y % 3)) = nI (1 + (y % 3)) from nI_add _ _) ?_
                      refine lv_istore (lv' := [(12, .int (nI (1 + (y % 3)))), (0, .ref (b)), (1, .ref (ad 0)), (2, .ref (q0)), (3, .ref (q1)), (4, .ref (q2)), (5, .int (nI (1))), (6, .int (nI (i))), (8, .int (nI (kd))), (9, .int (nI (y))), (10, .int (nI (rv))), (11, .int (nI (lo)))]) hx hb dL_law_649 hl (by decide) rfl (fun ls hl => ?_)
                      have hP : va_P D vwCl ((wF cI cZ cQ ad (pat) (sent) (rep) (kept) (rc) (los) (wai) (set) (bad) (gon) (bk) (bp) (bv) (ck) (cp) (cv) (ek) (em)) ++ (wT cI q0 q1 q2 (nA bk pat sent rc rep kept) dat (rA los wai set bad gon))) H := hP
                      have hD : va_D (fun q : Nat => s.heap.size ≤ q) ((wF cI cZ cQ ad (pat) (sent) (rep) (kept) (rc) (los) (wai) (set) (bad) (gon) (bk) (bp) (bv) (ck) (cp) (cv) (ek) (em)) ++ (wT cI q0 q1 q2 (nA bk pat sent rc rep kept) dat (rA los wai set bad gon))) := hD
                      exact law_F2 hfl hL hx hb hml hown hts hXs hbl hK hN hXK i y hi hy kk pat sent rep kept rc los wai set bad gon bk bp bv ck cp cv ek em dat hJ (1 + (y % 3)) (by omega) (by omega) H locs hP hD hS ls (lv_sub hl [1, 2, 3, 4, 5, 6, 7, 9, 0] rfl)
                    · skip
                      refine lv_bipush (v := nI (16)) hx hb dL_law_641 (by decide) ?_
                      refine lv_goto (tgt := 647) hx hb dL_law_643 (by decide) ?_
                      refine lv_irem hx hb dL_law_647 (by decide) ?_
                      refine q_top (show (nI (y) - nI (y) / nI (16) * nI (16)) = nI (y % 16) from pk_rem (by omega) (by decide) (by decide)) ?_
                      refine lv_iadd hx hb dL_law_648 ?_
                      refine q_top (show (nI (1) + nI (y % 16)) = nI (1 + (y % 16)) from nI_add _ _) ?_
                      refine lv_istore (lv' := [(12, .int (nI (1 + (y % 16)))), (0, .ref (b)), (1, .ref (ad 0)), (2, .ref (q0)), (3, .ref (q1)), (4, .ref (q2)), (5, .int (nI (1))), (6, .int (nI (i))), (8, .int (nI (kd))), (9, .int (nI (y))), (10, .int (nI (rv))), (11, .int (nI (lo)))]) hx hb dL_law_649 hl (by decide) rfl (fun ls hl => ?_)
                      have hP : va_P D vwCl ((wF cI cZ cQ ad (pat) (sent) (rep) (kept) (rc) (los) (wai) (set) (bad) (gon) (bk) (bp) (bv) (ck) (cp) (cv) (ek) (em)) ++ (wT cI q0 q1 q2 (nA bk pat sent rc rep kept) dat (rA los wai set bad gon))) H := hP
                      have hD : va_D (fun q : Nat => s.heap.size ≤ q) ((wF cI cZ cQ ad (pat) (sent) (rep) (kept) (rc) (los) (wai) (set) (bad) (gon) (bk) (bp) (bv) (ck) (cp) (cv) (ek) (em)) ++ (wT cI q0 q1 q2 (nA bk pat sent rc rep kept) dat (rA los wai set bad gon))) := hD
                      exact law_F2 hfl hL hx hb hml hown hts hXs hbl hK hN hXK i y hi hy kk pat sent rep kept rc los wai set bad gon bk bp bv ck cp cv ek em dat hJ (1 + (y % 16)) (by omega) (by omega) H locs hP hD hS ls (lv_sub hl [1, 2, 3, 4, 5, 6, 7, 9, 0] rfl)
                · skip
                  refine lv_aload_n hx hb dL_law_557 rfl (lv_at hl 2 rfl) ?_
                  refine lv_iconst (v := nI (3)) hx hb dL_law_558 (by decide) ?_
                  refine q_iald (f := (nA bk pat sent rc rep kept)) (j := 3) hx hb hK (jP_r hP) 0 0 rfl rfl (by decide) (by decide) dL_law_559 ?_
                  refine q_top (show nI ((nA bk pat sent rc rep kept) 3) = nI (rc) from rfl) ?_
                  refine q_if_le (u := ((rc : Nat) : Int)) (tgt := 624) hx hb dL_law_560 (by decide) (nI_toInt (by omega)) (fun c_560 => ?_) (fun c_560 => ?_)
                  · skip
                    refine lv_iload hx hb dL_law_624 (lv_at hl 7 rfl) ?_
                    refine lv_bipush (v := nI (12)) hx hb dL_law_626 (by decide) ?_
                    refine q_icmp_ge (u := ((kd : Nat) : Int)) (v := ((12 : Nat) : Int)) (tgt := 735) hx hb dL_law_628 (by decide) (nI_toInt (by omega)) (nI_toInt (by omega)) (fun c_628 => ?_) (fun c_628 => ?_)
                    · skip
                      have hP : va_P D vwCl ((wF cI cZ cQ ad (pat) (sent) (rep) (kept) (rc) (los) (wai) (set) (bad) (gon) (bk) (bp) (bv) (ck) (cp) (cv) (ek) (em)) ++ (wT cI q0 q1 q2 (nA bk pat sent rc rep kept) dat (rA los wai set bad gon))) H := hP
                      have hD : va_D (fun q : Nat => s.heap.size ≤ q) ((wF cI cZ cQ ad (pat) (sent) (rep) (kept) (rc) (los) (wai) (set) (bad) (gon) (bk) (bp) (bv) (ck) (cp) (cv) (ek) (em)) ++ (wT cI q0 q1 q2 (nA bk pat sent rc rep kept) dat (rA los wai set bad gon))) := hD
                      exact law_G hfl hL hx hb hml hown hts hXs hbl hK hN hXK i y hi hy kk pat sent rep kept rc los wai set bad gon bk bp bv ck cp cv ek em dat hJ   H locs hP hD hS ls (lv_sub hl [0, 1, 2, 3, 4, 5, 6, 8] rfl)
                    · skip
                      refine lv_iconst (v := nI (1)) hx hb dL_law_631 (by decide) ?_
                      refine lv_iload hx hb dL_law_632 (lv_at hl 8 rfl) ?_
                      refine lv_iload hx hb dL_law_634 (lv_at hl 8 rfl) ?_
                      refine lv_iconst (v := nI (5)) hx hb dL_law_636 (by decide) ?_
                      refine lv_irem hx hb dL_law_637 (by decide) ?_
                      refine q_top (show (nI (y) - nI (y) / nI (5) * nI (5)) = nI (y % 5) from pk_rem (by omega) (by decide) (by decide)) ?_
                      refine q_if_ne (u := ((y % 5 : Nat) : Int)) (tgt := 646) hx hb dL_law_638 (by decide) (nI_toInt (by omega)) (fun c_638 => ?_) (fun c_638 => ?_)
                      · skip
                        refine lv_iconst (v := nI (3)) hx hb dL_law_646 (by decide) ?_
                        refine lv_irem hx hb dL_law_647 (by decide) ?_
                        refine q_top (show (nI (y) - nI (y) / nI (3) * nI (3)) = nI (y % 3) from pk_rem (by omega) (by decide) (by decide)) ?_
                        refine lv_iadd hx hb dL_law_648 ?_
                        refine q_top (show (nI (1) + nI (y % 3)) = nI (1 + (y % 3)) from nI_add _ _) ?_
                        refine lv_istore (lv' := [(12, .int (nI (1 + (y % 3)))), (0, .ref (b)), (1, .ref (ad 0)), (2, .ref (q0)), (3, .ref (q1)), (4, .ref (q2)), (5, .int (nI (1))), (6, .int (nI (i))), (8, .int (nI (kd))), (9, .int (nI (y))), (10, .int (nI (rv))), (11, .int (nI (lo)))]) hx hb dL_law_649 hl (by decide) rfl (fun ls hl => ?_)
                        have hP : va_P D vwCl ((wF cI cZ cQ ad (pat) (sent) (rep) (kept) (rc) (los) (wai) (set) (bad) (gon) (bk) (bp) (bv) (ck) (cp) (cv) (ek) (em)) ++ (wT cI q0 q1 q2 (nA bk pat sent rc rep kept) dat (rA los wai set bad gon))) H := hP
                        have hD : va_D (fun q : Nat => s.heap.size ≤ q) ((wF cI cZ cQ ad (pat) (sent) (rep) (kept) (rc) (los) (wai) (set) (bad) (gon) (bk) (bp) (bv) (ck) (cp) (cv) (ek) (em)) ++ (wT cI q0 q1 q2 (nA bk pat sent rc rep kept) dat (rA los wai set bad gon))) := hD
                        exact law_F2 hfl hL hx hb hml hown hts hXs hbl hK hN hXK i y hi hy kk pat sent rep kept rc los wai set bad gon bk bp bv ck cp cv ek em dat hJ (1 + (y % 3)) (by omega) (by omega) H locs hP hD hS ls (lv_sub hl [1, 2, 3, 4, 5, 6, 7, 9, 0] rfl)
                      · skip
                        refine lv_bipush (v := nI (16)) hx hb dL_law_641 (by decide) ?_
                        refine lv_goto (tgt := 647) hx hb dL_law_643 (by decide) ?_
                        refine lv_irem hx hb dL_law_647 (by decide) ?_
                        refine q_top (show (nI (y) - nI (y) / nI (16) * nI (16)) = nI (y % 16) from pk_rem (by omega) (by decide) (by decide)) ?_
                        refine lv_iadd hx hb dL_law_648 ?_
                        refine q_top (show (nI (1) + nI (y % 16)) = nI (1 + (y % 16)) from nI_add _ _) ?_
                        refine lv_istore (lv' := [(12, .int (nI (1 + (y % 16)))), (0, .ref (b)), (1, .ref (ad 0)), (2, .ref (q0)), (3, .ref (q1)), (4, .ref (q2)), (5, .int (nI (1))), (6, .int (nI (i))), (8, .int (nI (kd))), (9, .int (nI (y))), (10, .int (nI (rv))), (11, .int (nI (lo)))]) hx hb dL_law_649 hl (by decide) rfl (fun ls hl => ?_)
                        have hP : va_P D vwCl ((wF cI cZ cQ ad (pat) (sent) (rep) (kept) (rc) (los) (wai) (set) (bad) (gon) (bk) (bp) (bv) (ck) (cp) (cv) (ek) (em)) ++ (wT cI q0 q1 q2 (nA bk pat sent rc rep kept) dat (rA los wai set bad gon))) H := hP
                        have hD : va_D (fun q : Nat => s.heap.size ≤ q) ((wF cI cZ cQ ad (pat) (sent) (rep) (kept) (rc) (los) (wai) (set) (bad) (gon) (bk) (bp) (bv) (ck) (cp) (cv) (ek) (em)) ++ (wT cI q0 q1 q2 (nA bk pat sent rc rep kept) dat (rA los wai set bad gon))) := hD
                        exact law_F2 hfl hL hx hb hml hown hts hXs hbl hK hN hXK i y hi hy kk pat sent rep kept rc los wai set bad gon bk bp bv ck cp cv ek em dat hJ (1 + (y % 16)) (by omega) (by omega) H locs hP hD hS ls (lv_sub hl [1, 2, 3, 4, 5, 6, 7, 9, 0] rfl)
                  · skip
                    refine lv_iload hx hb dL_law_563 (lv_at hl 8 rfl) ?_
                    refine lv_iconst (v := nI (3)) hx hb dL_law_565 (by decide) ?_
                    refine lv_idiv hx hb dL_law_566 (by decide) ?_
                    refine q_top (show (nI (y) / nI (3)) = nI (y / 3) from pk_div (by omega) (by decide) (by decide)) ?_
                    refine lv_iload hx hb dL_law_567 (lv_at hl 8 rfl) ?_
                    refine lv_iconst (v := nI (2)) hx hb dL_law_569 (by decide) ?_
                    refine lv_irem hx hb dL_law_570 (by decide) ?_
                    refine q_top (show (nI (y) - nI (y) / nI (2) * nI (2)) = nI (y % 2) from pk_rem (by omega) (by decide) (by decide)) ?_
                    refine q_if_ne (u := ((y % 2 : Nat) : Int)) (tgt := 579) hx hb dL_law_571 (by decide) (nI_toInt (by omega)) (fun c_571 => ?_) (fun c_571 => ?_)
                    · skip
                      refine lv_iconst (v := nI (4)) hx hb dL_law_579 (by decide) ?_
                      refine lv_irem hx hb dL_law_580 (by decide) ?_
                      refine q_top (show (nI (y / 3) - nI (y / 3) / nI (4) * nI (4)) = nI ((y / 3) % 4) from pk_rem (by omega) (by decide) (by decide)) ?_
                      refine lv_istore (lv' := [(12, .int (nI ((y / 3) % 4))), (0, .ref (b)), (1, .ref (ad 0)), (2, .ref (q0)), (3, .ref (q1)), (4, .ref (q2)), (5, .int (nI (1))), (6, .int (nI (i))), (8, .int (nI (kd))), (9, .int (nI (y))), (10, .int (nI (rv))), (11, .int (nI (lo)))]) hx hb dL_law_581 hl (by decide) rfl (fun ls hl => ?_)
                      have hP : va_P D vwCl ((wF cI cZ cQ ad (pat) (sent) (rep) (kept) (rc) (los) (wai) (set) (bad) (gon) (bk) (bp) (bv) (ck) (cp) (cv) (ek) (em)) ++ (wT cI q0 q1 q2 (nA bk pat sent rc rep kept) dat (rA los wai set bad gon))) H := hP
                      have hD : va_D (fun q : Nat => s.heap.size ≤ q) ((wF cI cZ cQ ad (pat) (sent) (rep) (kept) (rc) (los) (wai) (set) (bad) (gon) (bk) (bp) (bv) (ck) (cp) (cv) (ek) (em)) ++ (wT cI q0 q1 q2 (nA bk pat sent rc rep kept) dat (rA los wai set bad gon))) := hD
                      exact law_E2 hfl hL hx hb hml hown hts hXs hbl hK hN hXK i y hi hy kk pat sent rep kept rc los wai set bad gon bk bp bv ck cp cv ek em dat hJ rv ((y / 3) % 4) (hrv (by omega)) (by omega) H locs hP hD hS ls (lv_sub hl [1, 2, 3, 4, 5, 6, 7, 9, 10, 0] rfl)
                    · skip
                      refine lv_bipush (v := nI (21)) hx hb dL_law_574 (by decide) ?_
                      refine lv_goto (tgt := 580) hx hb dL_law_576 (by decide) ?_
                      refine lv_irem hx hb dL_law_580 (by decide) ?_
                      refine q_top (show (nI (y / 3) - nI (y / 3) / nI (21) * nI (21)) = nI ((y / 3) % 21) from pk_rem (by omega) (by decide) (by decide)) ?_
                      refine lv_istore (lv' := [(12, .int (nI ((y / 3) % 21))), (0, .ref (b)), (1, .ref (ad 0)), (2, .ref (q0)), (3, .ref (q1)), (4, .ref (q2)), (5, .int (nI (1))), (6, .int (nI (i))), (8, .int (nI (kd))), (9, .int (nI (y))), (10, .int (nI (rv))), (11, .int (nI (lo)))]) hx hb dL_law_581 hl (by decide) rfl (fun ls hl => ?_)
                      have hP : va_P D vwCl ((wF cI cZ cQ ad (pat) (sent) (rep) (kept) (rc) (los) (wai) (set) (bad) (gon) (bk) (bp) (bv) (ck) (cp) (cv) (ek) (em)) ++ (wT cI q0 q1 q2 (nA bk pat sent rc rep kept) dat (rA los wai set bad gon))) H := hP
                      have hD : va_D (fun q : Nat => s.heap.size ≤ q) ((wF cI cZ cQ ad (pat) (sent) (rep) (kept) (rc) (los) (wai) (set) (bad) (gon) (bk) (bp) (bv) (ck) (cp) (cv) (ek) (em)) ++ (wT cI q0 q1 q2 (nA bk pat sent rc rep kept) dat (rA los wai set bad gon))) := hD
                      exact law_E2 hfl hL hx hb hml hown hts hXs hbl hK hN hXK i y hi hy kk pat sent rep kept rc los wai set bad gon bk bp bv ck cp cv ek em dat hJ rv ((y / 3) % 21) (hrv (by omega)) (by omega) H locs hP hD hS ls (lv_sub hl [1, 2, 3, 4, 5, 6, 7, 9, 10, 0] rfl)
              · skip
                have hP : va_P D vwCl ((wF cI cZ cQ ad (pat) (sent) (rep) (kept) (rc) (los) (wai) (set) (bad) (gon) (bk) (bp) (bv) (ck) (cp) (cv) (ek) (em)) ++ (wT cI q0 q1 q2 (nA bk pat sent rc rep kept) dat (rA los wai set bad gon))) H := hP
                have hD : va_D (fun q : Nat => s.heap.size ≤ q) ((wF cI cZ cQ ad (pat) (sent) (rep) (kept) (rc) (los) (wai) (set) (bad) (gon) (bk) (bp) (bv) (ck) (cp) (cv) (ek) (em)) ++ (wT cI q0 q1 q2 (nA bk pat sent rc rep kept) dat (rA los wai set bad gon))) := hD
                exact law_D hfl hL hx hb hml hown hts hXs hbl hK hN hXK i y hi hy kk pat sent rep kept rc los wai set bad gon bk bp bv ck cp cv ek em dat hJ rv lo (hrv (by omega)) hlo H locs hP hD hS ls (lv_sub hl [0, 1, 2, 3, 4, 5, 6, 8, 9, 10] rfl)
          · skip
            refine lv_iload hx hb dL_law_372 (lv_at hl 8 rfl) ?_
            refine lv_iconst (v := nI (3)) hx hb dL_law_374 (by decide) ?_
            refine lv_idiv hx hb dL_law_375 (by decide) ?_
            refine q_top (show (nI (y) / nI (3)) = nI (y / 3) from pk_div (by omega) (by decide) (by decide)) ?_
            refine lv_iload hx hb dL_law_376 (lv_at hl 8 rfl) ?_
            refine lv_iconst (v := nI (2)) hx hb dL_law_378 (by decide) ?_
            refine lv_irem hx hb dL_law_379 (by decide) ?_
            refine q_top (show (nI (y) - nI (y) / nI (2) * nI (2)) = nI (y % 2) from pk_rem (by omega) (by decide) (by decide)) ?_
            refine q_if_ne (u := ((y % 2 : Nat) : Int)) (tgt := 388) hx hb dL_law_380 (by decide) (nI_toInt (by omega)) (fun c_380 => ?_) (fun c_380 => ?_)
            · skip
              refine lv_iconst (v := nI (4)) hx hb dL_law_388 (by decide) ?_
              refine lv_irem hx hb dL_law_389 (by decide) ?_
              refine q_top (show (nI (y / 3) - nI (y / 3) / nI (4) * nI (4)) = nI ((y / 3) % 4) from pk_rem (by omega) (by decide) (by decide)) ?_
              refine lv_istore (lv' := [(12, .int (nI ((y / 3) % 4))), (0, .ref (b)), (1, .ref (ad 0)), (2, .ref (q0)), (3, .ref (q1)), (4, .ref (q2)), (5, .int (nI (1))), (6, .int (nI (i))), (8, .int (nI (kd))), (9, .int (nI (y))), (10, .int (nI (rv))), (11, .int (nI (lo)))]) hx hb dL_law_390 hl (by decide) rfl (fun ls hl => ?_)
              have hP : va_P D vwCl ((wF cI cZ cQ ad (pat) (sent) (rep) (kept) (rc) (los) (wai) (set) (bad) (gon) (bk) (bp) (bv) (ck) (cp) (cv) (ek) (em)) ++ (wT cI q0 q1 q2 (nA bk pat sent rc rep kept) dat (rA los wai set bad gon))) H := hP
              have hD : va_D (fun q : Nat => s.heap.size ≤ q) ((wF cI cZ cQ ad (pat) (sent) (rep) (kept) (rc) (los) (wai) (set) (bad) (gon) (bk) (bp) (bv) (ck) (cp) (cv) (ek) (em)) ++ (wT cI q0 q1 q2 (nA bk pat sent rc rep kept) dat (rA los wai set bad gon))) := hD
              exact law_C2 hfl hL hx hb hml hown hts hXs hbl hK hN hXK i y hi hy kk pat sent rep kept rc los wai set bad gon bk bp bv ck cp cv ek em dat hJ lo ((y / 3) % 4) hlo (by omega) H locs hP hD hS ls (lv_sub hl [1, 2, 3, 4, 5, 6, 7, 9, 11, 0] rfl)
            · skip
              refine lv_bipush (v := nI (21)) hx hb dL_law_383 (by decide) ?_
              refine lv_goto (tgt := 389) hx hb dL_law_385 (by decide) ?_
              refine lv_irem hx hb dL_law_389 (by decide) ?_
              refine q_top (show (nI (y / 3) - nI (y / 3) / nI (21) * nI (21)) = nI ((y / 3) % 21) from pk_rem (by omega) (by decide) (by decide)) ?_
              refine lv_istore (lv' := [(12, .int (nI ((y / 3) % 21))), (0, .ref (b)), (1, .ref (ad 0)), (2, .ref (q0)), (3, .ref (q1)), (4, .ref (q2)), (5, .int (nI (1))), (6, .int (nI (i))), (8, .int (nI (kd))), (9, .int (nI (y))), (10, .int (nI (rv))), (11, .int (nI (lo)))]) hx hb dL_law_390 hl (by decide) rfl (fun ls hl => ?_)
              have hP : va_P D vwCl ((wF cI cZ cQ ad (pat) (sent) (rep) (kept) (rc) (los) (wai) (set) (bad) (gon) (bk) (bp) (bv) (ck) (cp) (cv) (ek) (em)) ++ (wT cI q0 q1 q2 (nA bk pat sent rc rep kept) dat (rA los wai set bad gon))) H := hP
              have hD : va_D (fun q : Nat => s.heap.size ≤ q) ((wF cI cZ cQ ad (pat) (sent) (rep) (kept) (rc) (los) (wai) (set) (bad) (gon) (bk) (bp) (bv) (ck) (cp) (cv) (ek) (em)) ++ (wT cI q0 q1 q2 (nA bk pat sent rc rep kept) dat (rA los wai set bad gon))) := hD
              exact law_C2 hfl hL hx hb hml hown hts hXs hbl hK hN hXK i y hi hy kk pat sent rep kept rc los wai set bad gon bk bp bv ck cp cv ek em dat hJ lo ((y / 3) % 21) hlo (by omega) H locs hP hD hS ls (lv_sub hl [1, 2, 3, 4, 5, 6, 7, 9, 11, 0] rfl)
        · skip
          have hP : va_P D vwCl ((wF cI cZ cQ ad (pat) (sent) (rep) (kept) (rc) (los) (wai) (set) (bad) (gon) (bk) (bp) (bv) (ck) (cp) (cv) (ek) (em)) ++ (wT cI q0 q1 q2 (nA bk pat sent rc rep kept) dat (rA los wai set bad gon))) H := hP
          have hD : va_D (fun q : Nat => s.heap.size ≤ q) ((wF cI cZ cQ ad (pat) (sent) (rep) (kept) (rc) (los) (wai) (set) (bad) (gon) (bk) (bp) (bv) (ck) (cp) (cv) (ek) (em)) ++ (wT cI q0 q1 q2 (nA bk pat sent rc rep kept) dat (rA los wai set bad gon))) := hD
          exact law_B hfl hL hx hb hml hown hts hXs hbl hK hN hXK i y hi hy kk pat sent rep kept rc los wai set bad gon bk bp bv ck cp cv ek em dat hJ   H locs hP hD hS ls (lv_sub hl [0, 1, 2, 3, 4, 5, 6, 8] rfl)
      · skip
        have hP : va_P D vwCl ((wF cI cZ cQ ad (pat) (sent) (rep) (kept) (rc) (los) (wai) (set) (bad) (gon) (bk) (bp) (bv) (ck) (cp) (cv) (ek) (em)) ++ (wT cI q0 q1 q2 (nA bk pat sent rc rep kept) dat (rA los wai set bad gon))) H := hP
        have hD : va_D (fun q : Nat => s.heap.size ≤ q) ((wF cI cZ cQ ad (pat) (sent) (rep) (kept) (rc) (los) (wai) (set) (bad) (gon) (bk) (bp) (bv) (ck) (cp) (cv) (ek) (em)) ++ (wT cI q0 q1 q2 (nA bk pat sent rc rep kept) dat (rA los wai set bad gon))) := hD
        exact law_A hfl hL hx hb hml hown hts hXs hbl hK hN hXK i y hi hy kk pat sent rep kept rc los wai set bad gon bk bp bv ck cp cv ek em dat hJ   H locs hP hD hS ls (lv_sub hl [0, 1, 2, 3, 4, 5, 6, 8] rfl)

set_option maxHeartbeats 16000000 in
set_option maxRecDepth 100000 in
theorem law_98 {p : Program} {l : Launch} {e : Env} {s : State} {m : MethodId} {below : List Frame} {meth : Method} {c : Code} {b L : Nat} {xs : Nat → Int32} {D : va_G} {cI cZ cQ cL : ClassId} {Q : State → Prop} (hfl : l.stackTraces = false) (hL : L ≤ 260) (hx : p.tables.exec = Jvm.exec) (hb : c.code = cL_law) (hml : c.maxLocals = 15) (hown : s.vm.findClass RL = some m.cls) (hts : ∀ w ∈ wsL_law, w.before #[Value.ref b] s = true) (hXs : va_X b L xs s s.heap) (hbl : b < s.heap.size) (hK : va_K D vwCl (TY cI cZ cQ cL) s) (hN : NK s) (hXK : XK s.heap.size s) {q0 q1 q2 : Nat} {ad : Nat → Nat} (i xx : Nat) (hi : i < 120) (hxx : xx < 2 ^ 31) (kk : ∀ y, y < 2 ^ 30 → LN p l e s m below meth c b D cI cZ cQ Q q0 q1 q2 ad (i + 1) [(0, .ref (b)), (1, .ref (ad 0)), (2, .ref (q0)), (3, .ref (q1)), (4, .ref (q2)), (5, .int (nI (1))), (6, .int (nI (i))), (9, .int (nI (y)))] (200 + 80 * i + 5) (1000 + 500 * i + 40) 758) (pat : Nat) (sent : Nat) (rep : Nat) (kept : Nat) (rc : Nat) (los : Nat → Nat) (wai : Nat → Nat) (set : Nat → Nat) (bad : Nat → Nat) (gon : Nat → Nat) (bk : Nat) (bp : Nat → B8) (bv : Nat → B8) (ck : Nat) (cp : Nat → B8) (cv : Nat → B8) (ek : Nat) (em : Nat → Nat → B8) (dat : Nat → B8) (hJ : LJ i bk pat sent rep kept rc los wai set bad gon bp bv dat) (H : Heap) (locs : List Loc) (hP : va_P D vwCl ((wF cI cZ cQ ad (pat) (sent) (rep) (kept) (rc) (los) (wai) (set) (bad) (gon) (bk) (bp) (bv) (ck) (cp) (cv) (ek) (em)) ++ (wT cI q0 q1 q2 (nA bk pat sent rc rep kept) dat (rA los wai set bad gon))) H) (hD : va_D (fun q : Nat => s.heap.size ≤ q) ((wF cI cZ cQ ad (pat) (sent) (rep) (kept) (rc) (los) (wai) (set) (bad) (gon) (bk) (bp) (bv) (ck) (cp) (cv) (ek) (em)) ++ (wT cI q0 q1 q2 (nA bk pat sent rc rep kept) dat (rA los wai set bad gon)))) (hS : va_S (fun q : Nat => s.heap.size ≤ q) s.heap H locs) (ls : Array Slot) (hl : lv_has ls 15 [(0, .ref (b)), (1, .ref (ad 0)), (2, .ref (q0)), (3, .ref (q1)), (4, .ref (q2)), (5, .int (nI (1))), (6, .int (nI (i))), (7, .int (nI (xx)))]) : W p l e room_1 s m #[Value.ref b] below meth c H locs (200 + 80 * i) (1000 + 500 * i) Q (F0 m 98 ls []) := by
  have hA : ∀ q : Nat, s.heap.size ≤ q → (fun q : Nat => s.heap.size ≤ q) q := fun _ h => h
  have hbA : ¬ (fun q : Nat => s.heap.size ≤ q) b := Nat.not_le.mpr hbl
  obtain ⟨⟨hrc, hlos, hwai, hset, hbad, hgon, hbk, hpa, hse, hbp, hbv, hlv, hp1⟩, hbk1, hs16, hr6, hk6⟩ := id hJ
  refine lv_iload hx hb dL_law_98 (lv_at hl 7 rfl) ?_
  refine lv_bipush (v := nI (18)) hx hb dL_law_100 (by decide) ?_
  refine lv_irem hx hb dL_law_102 (by decide) ?_
  refine q_top (show (nI (xx) - nI (xx) / nI (18) * nI (18)) = nI (xx % 18) from pk_rem (by omega) (by decide) (by decide)) ?_
  refine lv_istore (lv' := [(8, .int (nI (xx % 18))), (0, .ref (b)), (1, .ref (ad 0)), (2, .ref (q0)), (3, .ref (q1)), (4, .ref (q2)), (5, .int (nI (1))), (6, .int (nI (i))), (7, .int (nI (xx)))]) hx hb dL_law_103 hl (by decide) rfl (fun ls hl => ?_)
  refine lv_iload hx hb dL_law_105 (lv_at hl 8 rfl) ?_
  refine lv_bipush (v := nI (18)) hx hb dL_law_107 (by decide) ?_
  refine lv_idiv hx hb dL_law_109 (by decide) ?_
  refine q_top (show (nI (xx) / nI (18)) = nI (xx / 18) from pk_div (by omega) (by decide) (by decide)) ?_
  refine lv_istore (lv' := [(9, .int (nI (xx / 18))), (8, .int (nI (xx % 18))), (0, .ref (b)), (1, .ref (ad 0)), (2, .ref (q0)), (3, .ref (q1)), (4, .ref (q2)), (5, .int (nI (1))), (6, .int (nI (i))), (7, .int (nI (xx)))]) hx hb dL_law_110 hl (by decide) rfl (fun ls hl => ?_)
  refine lv_aload_n hx hb dL_law_112 rfl (lv_at hl 4 rfl) ?_
  refine lv_iconst (v := nI (3)) hx hb dL_law_113 (by decide) ?_
  refine q_iald (f := (nA bk pat sent rc rep kept)) (j := 3) hx hb hK (jP_r hP) 0 0 rfl rfl (by decide) (by decide) dL_law_114 ?_
  refine q_top (show nI ((nA bk pat sent rc rep kept) 3) = nI (rc) from rfl) ?_
  refine q_if_ne (u := ((rc : Nat) : Int)) (tgt := 122) hx hb dL_law_115 (by decide) (nI_toInt (by omega)) (fun c_115 => ?_) (fun c_115 => ?_)
  · have hrv : 0 < rc → xx / 18 % rc < rc := fun h => Nat.mod_lt _ h
    refine lv_iload hx hb dL_law_122 (lv_at hl 0 rfl) ?_
    refine lv_aload_n hx hb dL_law_124 rfl (lv_at hl 4 rfl) ?_
    refine lv_iconst (v := nI (3)) hx hb dL_law_125 (by decide) ?_
    refine q_iald (f := (nA bk pat sent rc rep kept)) (j := 3) hx hb hK (jP_r hP) 0 0 rfl rfl (by decide) (by decide) dL_law_126 ?_
    refine q_top (show nI ((nA bk pat sent rc rep kept) 3) = nI (rc) from rfl) ?_
    refine lv_irem hx hb dL_law_127 (ni_ne0 (by omega) (by omega)) ?_
    refine q_top (show (nI (xx / 18) - nI (xx / 18) / nI (rc) * nI (rc)) = nI ((xx / 18) % rc) from pk_rem (by omega) (by omega) (by omega)) ?_
    refine lv_istore (lv' := [(10, .int (nI ((xx / 18) % rc))), (9, .int (nI (xx / 18))), (8, .int (nI (xx % 18))), (0, .ref (b)), (1, .ref (ad 0)), (2, .ref (q0)), (3, .ref (q1)), (4, .ref (q2)), (5, .int (nI (1))), (6, .int (nI (i))), (7, .int (nI (xx)))]) hx hb dL_law_128 hl (by decide) rfl (fun ls hl => ?_)
    refine lv_iload hx hb dL_law_130 (lv_at hl 1 rfl) ?_
    refine lv_iconst (v := nI (3)) hx hb dL_law_132 (by decide) ?_
    refine lv_irem hx hb dL_law_133 (by decide) ?_
    refine q_top (show (nI (xx / 18) - nI (xx / 18) / nI (3) * nI (3)) = nI ((xx / 18) % 3) from pk_rem (by omega) (by decide) (by decide)) ?_
    refine q_if_ne (u := (((xx / 18) % 3 : Nat) : Int)) (tgt := 149) hx hb dL_law_134 (by decide) (nI_toInt (by omega)) (fun c_134 => ?_) (fun c_134 => ?_)
    · skip
      refine lv_iload hx hb dL_law_149 (lv_at hl 1 rfl) ?_
      refine lv_bipush (v := nI (6)) hx hb dL_law_151 (by decide) ?_
      refine lv_idiv hx hb dL_law_153 (by decide) ?_
      refine q_top (show (nI (xx / 18) / nI (6)) = nI ((xx / 18) / 6) from pk_div (by omega) (by decide) (by decide)) ?_
      refine lv_sipush (v := nI (2048)) hx hb dL_law_154 (by decide) ?_
      refine lv_irem hx hb dL_law_157 (by decide) ?_
      refine q_top (show (nI ((xx / 18) / 6) - nI ((xx / 18) / 6) / nI (2048) * nI (2048)) = nI (((xx / 18) / 6) % 2048) from pk_rem (by omega) (by decide) (by decide)) ?_
      refine lv_iload hx hb dL_law_158 (lv_at hl 1 rfl) ?_
      refine lv_bipush (v := nI (97)) hx hb dL_law_160 (by decide) ?_
      refine lv_idiv hx hb dL_law_162 (by decide) ?_
      refine q_top (show (nI (xx / 18) / nI (97)) = nI ((xx / 18) / 97) from pk_div (by omega) (by decide) (by decide)) ?_
      refine lv_sipush (v := nI (2048)) hx hb dL_law_163 (by decide) ?_
      refine lv_irem hx hb dL_law_166 (by decide) ?_
      refine q_top (show (nI ((xx / 18) / 97) - nI ((xx / 18) / 97) / nI (2048) * nI (2048)) = nI (((xx / 18) / 97) % 2048) from pk_rem (by omega) (by decide) (by decide)) ?_
      refine lv_iand hx hb dL_law_167 ?_
      refine q_top (show (nI (((xx / 18) / 6) % 2048) &&& nI (((xx / 18) / 97) % 2048)) = nI ((((xx / 18) / 6) % 2048) &&& (((xx / 18) / 97) % 2048)) from nI_and _ _) ?_
      have hlo := Nat.le_trans (@Nat.and_le_left (((xx / 18) / 6) % 2048) (((xx / 18) / 97) % 2048)) (show (((xx / 18) / 6) % 2048) ≤ 2047 by omega)
      refine lv_istore (lv' := [(11, .int (nI ((((xx / 18) / 6) % 2048) &&& (((xx / 18) / 97) % 2048)))), (10, .int (nI ((xx / 18) % rc))), (9, .int (nI (xx / 18))), (8, .int (nI (xx % 18))), (0, .ref (b)), (1, .ref (ad 0)), (2, .ref (q0)), (3, .ref (q1)), (4, .ref (q2)), (5, .int (nI (1))), (6, .int (nI (i))), (7, .int (nI (xx)))]) hx hb dL_law_168 hl (by decide) rfl (fun ls hl => ?_)
      have hP : va_P D vwCl ((wF cI cZ cQ ad (pat) (sent) (rep) (kept) (rc) (los) (wai) (set) (bad) (gon) (bk) (bp) (bv) (ck) (cp) (cv) (ek) (em)) ++ (wT cI q0 q1 q2 (nA bk pat sent rc rep kept) dat (rA los wai set bad gon))) H := hP
      have hD : va_D (fun q : Nat => s.heap.size ≤ q) ((wF cI cZ cQ ad (pat) (sent) (rep) (kept) (rc) (los) (wai) (set) (bad) (gon) (bk) (bp) (bv) (ck) (cp) (cv) (ek) (em)) ++ (wT cI q0 q1 q2 (nA bk pat sent rc rep kept) dat (rA los wai set bad gon))) := hD
      exact law_170 hfl hL hx hb hml hown hts hXs hbl hK hN hXK i (xx / 18) hi (by omega) (kk (xx / 18) (by omega)) pat sent rep kept rc los wai set bad gon bk bp bv ck cp cv ek em dat hJ (xx % 18) ((xx / 18) % rc) ((((xx / 18) / 6) % 2048) &&& (((xx / 18) / 97) % 2048)) (by omega) hrv (hlo) H locs hP hD hS ls (lv_sub hl [4, 5, 6, 7, 8, 9, 10, 3, 2, 1, 0] rfl)
    · skip
      refine lv_iload hx hb dL_law_137 (lv_at hl 1 rfl) ?_
      refine lv_bipush (v := nI (6)) hx hb dL_law_139 (by decide) ?_
      refine lv_idiv hx hb dL_law_141 (by decide) ?_
      refine q_top (show (nI (xx / 18) / nI (6)) = nI ((xx / 18) / 6) from pk_div (by omega) (by decide) (by decide)) ?_
      refine lv_sipush (v := nI (2048)) hx hb dL_law_142 (by decide) ?_
      refine lv_irem hx hb dL_law_145 (by decide) ?_
      refine q_top (show (nI ((xx / 18) / 6) - nI ((xx / 18) / 6) / nI (2048) * nI (2048)) = nI (((xx / 18) / 6) % 2048) from pk_rem (by omega) (by decide) (by decide)) ?_
      refine lv_goto (tgt := 168) hx hb dL_law_146 (by decide) ?_
      have hlo := Nat.le_trans (@Nat.and_le_left (((xx / 18) / 6) % 2048) (((xx / 18) / 97) % 2048)) (show (((xx / 18) / 6) % 2048) ≤ 2047 by omega)
      refine lv_istore (lv' := [(11, .int (nI (((xx / 18) / 6) % 2048))), (10, .int (nI ((xx / 18) % rc))), (9, .int (nI (xx / 18))), (8, .int (nI (xx % 18))), (0, .ref (b)), (1, .ref (ad 0)), (2, .ref (q0)), (3, .ref (q1)), (4, .ref (q2)), (5, .int (nI (1))), (6, .int (nI (i))), (7, .int (nI (xx)))]) hx hb dL_law_168 hl (by decide) rfl (fun ls hl => ?_)
      have hP : va_P D vwCl ((wF cI cZ cQ ad (pat) (sent) (rep) (kept) (rc) (los) (wai) (set) (bad) (gon) (bk) (bp) (bv) (ck) (cp) (cv) (ek) (em)) ++ (wT cI q0 q1 q2 (nA bk pat sent rc rep kept) dat (rA los wai set bad gon))) H := hP
      have hD : va_D (fun q : Nat => s.heap.size ≤ q) ((wF cI cZ cQ ad (pat) (sent) (rep) (kept) (rc) (los) (wai) (set) (bad) (gon) (bk) (bp) (bv) (ck) (cp) (cv) (ek) (em)) ++ (wT cI q0 q1 q2 (nA bk pat sent rc rep kept) dat (rA los wai set bad gon))) := hD
      exact law_170 hfl hL hx hb hml hown hts hXs hbl hK hN hXK i (xx / 18) hi (by omega) (kk (xx / 18) (by omega)) pat sent rep kept rc los wai set bad gon bk bp bv ck cp cv ek em dat hJ (xx % 18) ((xx / 18) % rc) (((xx / 18) / 6) % 2048) (by omega) hrv (by omega) H locs hP hD hS ls (lv_sub hl [4, 5, 6, 7, 8, 9, 10, 3, 2, 1, 0] rfl)
  · have hrv : 0 < rc → 0 < rc := fun h => h
    refine lv_iconst (v := nI (0)) hx hb dL_law_118 (by decide) ?_
    refine lv_goto (tgt := 128) hx hb dL_law_119 (by decide) ?_
    refine lv_istore (lv' := [(10, .int (nI (0))), (9, .int (nI (xx / 18))), (8, .int (nI (xx % 18))), (0, .ref (b)), (1, .ref (ad 0)), (2, .ref (q0)), (3, .ref (q1)), (4, .ref (q2)), (5, .int (nI (1))), (6, .int (nI (i))), (7, .int (nI (xx)))]) hx hb dL_law_128 hl (by decide) rfl (fun ls hl => ?_)
    refine lv_iload hx hb dL_law_130 (lv_at hl 1 rfl) ?_
    refine lv_iconst (v := nI (3)) hx hb dL_law_132 (by decide) ?_
    refine lv_irem hx hb dL_law_133 (by decide) ?_
    refine q_top (show (nI (xx / 18) - nI (xx / 18) / nI (3) * nI (3)) = nI ((xx / 18) % 3) from pk_rem (by omega) (by decide) (by decide)) ?_
    refine q_if_ne (u := (((xx / 18) % 3 : Nat) : Int)) (tgt := 149) hx hb dL_law_134 (by decide) (nI_toInt (by omega)) (fun c_134 => ?_) (fun c_134 => ?_)
    · skip
      refine lv_iload hx hb dL_law_149 (lv_at hl 1 rfl) ?_
      refine lv_bipush (v := nI (6)) hx hb dL_law_151 (by decide) ?_
      refine lv_idiv hx hb dL_law_153 (by decide) ?_
      refine q_top (show (nI (xx / 18) / nI (6)) = nI ((xx / 18) / 6) from pk_div (by omega) (by decide) (by decide)) ?_
      refine lv_sipush (v := nI (2048)) hx hb dL_law_154 (by decide) ?_
      refine lv_irem hx hb dL_law_157 (by decide) ?_
      refine q_top (show (nI ((xx / 18) / 6) - nI ((xx / 18) / 6) / nI (2048) * nI (2048)) = nI (((xx / 18) / 6) % 2048) from pk_rem (by omega) (by decide) (by decide)) ?_
      refine lv_iload hx hb dL_law_158 (lv_at hl 1 rfl) ?_
      refine lv_bipush (v := nI (97)) hx hb dL_law_160 (by decide) ?_
      refine lv_idiv hx hb dL_law_162 (by decide) ?_
      refine q_top (show (nI (xx / 18) / nI (97)) = nI ((xx / 18) / 97) from pk_div (by omega) (by decide) (by decide)) ?_
      refine lv_sipush (v := nI (2048)) hx hb dL_law_163 (by decide) ?_
      refine lv_irem hx hb dL_law_166 (by decide) ?_
      refine q_top (show (nI ((xx / 18) / 97) - nI ((xx / 18) / 97) / nI (2048) * nI (2048)) = nI (((xx / 18) / 97) % 2048) from pk_rem (by omega) (by decide) (by decide)) ?_
      refine lv_iand hx hb dL_law_167 ?_
      refine q_top (show (nI (((xx / 18) / 6) % 2048) &&& nI (((xx / 18) / 97) % 2048)) = nI ((((xx / 18) / 6) % 2048) &&& (((xx / 18) / 97) % 2048)) from nI_and _ _) ?_
      have hlo := Nat.le_trans (@Nat.and_le_left (((xx / 18) / 6) % 2048) (((xx / 18) / 97) % 2048)) (show (((xx / 18) / 6) % 2048) ≤ 2047 by omega)
      refine lv_istore (lv' := [(11, .int (nI ((((xx / 18) / 6) % 2048) &&& (((xx / 18) / 97) % 2048)))), (10, .int (nI (0))), (9, .int (nI (xx / 18))), (8, .int (nI (xx % 18))), (0, .ref (b)), (1, .ref (ad 0)), (2, .ref (q0)), (3, .ref (q1)), (4, .ref (q2)), (5, .int (nI (1))), (6, .int (nI (i))), (7, .int (nI (xx)))]) hx hb dL_law_168 hl (by decide) rfl (fun ls hl => ?_)
      have hP : va_P D vwCl ((wF cI cZ cQ ad (pat) (sent) (rep) (kept) (rc) (los) (wai) (set) (bad) (gon) (bk) (bp) (bv) (ck) (cp) (cv) (ek) (em)) ++ (wT cI q0 q1 q2 (nA bk pat sent rc rep kept) dat (rA los wai set bad gon))) H := hP
      have hD : va_D (fun q : Nat => s.heap.size ≤ q) ((wF cI cZ cQ ad (pat) (sent) (rep) (kept) (rc) (los) (wai) (set) (bad) (gon) (bk) (bp) (bv) (ck) (cp) (cv) (ek) (em)) ++ (wT cI q0 q1 q2 (nA bk pat sent rc rep kept) dat (rA los wai set bad gon))) := hD
      exact law_170 hfl hL hx hb hml hown hts hXs hbl hK hN hXK i (xx / 18) hi (by omega) (kk (xx / 18) (by omega)) pat sent rep kept rc los wai set bad gon bk bp bv ck cp cv ek em dat hJ (xx % 18) 0 ((((xx / 18) / 6) % 2048) &&& (((xx / 18) / 97) % 2048)) (by omega) hrv (hlo) H locs hP hD hS ls (lv_sub hl [4, 5, 6, 7, 8, 9, 10, 3, 2, 1, 0] rfl)
    · skip
      refine lv_iload hx hb dL_law_137 (lv_at hl 1 rfl) ?_
      refine lv_bipush (v := nI (6)) hx hb dL_law_139 (by decide) ?_
      refine lv_idiv hx hb dL_law_141 (by decide) ?_
      refine q_top (show (nI (xx / 18) / nI (6)) = nI ((xx / 18) / 6) from pk_div (by omega) (by decide) (by decide)) ?_
      refine lv_sipush (v := nI (2048)) hx hb dL_law_142 (by decide) ?_
      refine lv_irem hx hb dL_law_145 (by decide) ?_
      refine q_top (show (nI ((xx / 18) / 6) - nI ((xx / 18) / 6) / nI (2048) * nI (2048)) = nI (((xx / 18) / 6) % 2048) from pk_rem (by omega) (by decide) (by decide)) ?_
      refine lv_goto (tgt := 168) hx hb dL_law_146 (by decide) ?_
      have hlo := Nat.le_trans (@Nat.and_le_left (((xx / 18) / 6) % 2048) (((xx / 18) / 97) % 2048)) (show (((xx / 18) / 6) % 2048) ≤ 2047 by omega)
      refine lv_istore (lv' := [(11, .int (nI (((xx / 18) / 6) % 2048))), (10, .int (nI (0))), (9, .int (nI (xx / 18))), (8, .int (nI (xx % 18))), (0, .ref (b)), (1, .ref (ad 0)), (2, .ref (q0)), (3, .ref (q1)), (4, .ref (q2)), (5, .int (nI (1))), (6, .int (nI (i))), (7, .int (nI (xx)))]) hx hb dL_law_168 hl (by decide) rfl (fun ls hl => ?_)
      have hP : va_P D vwCl ((wF cI cZ cQ ad (pat) (sent) (rep) (kept) (rc) (los) (wai) (set) (bad) (gon) (bk) (bp) (bv) (ck) (cp) (cv) (ek) (em)) ++ (wT cI q0 q1 q2 (nA bk pat sent rc rep kept) dat (rA los wai set bad gon))) H := hP
      have hD : va_D (fun q : Nat => s.heap.size ≤ q) ((wF cI cZ cQ ad (pat) (sent) (rep) (kept) (rc) (los) (wai) (set) (bad) (gon) (bk) (bp) (bv) (ck) (cp) (cv) (ek) (em)) ++ (wT cI q0 q1 q2 (nA bk pat sent rc rep kept) dat (rA los wai set bad gon))) := hD
      exact law_170 hfl hL hx hb hml hown hts hXs hbl hK hN hXK i (xx / 18) hi (by omega) (kk (xx / 18) (by omega)) pat sent rep kept rc los wai set bad gon bk bp bv ck cp cv ek em dat hJ (xx % 18) 0 (((xx / 18) / 6) % 2048) (by omega) hrv (by omega) H locs hP hD hS ls (lv_sub hl [4, 5, 6, 7, 8, 9, 10, 3, 2, 1, 0] rfl)

set_option maxHeartbeats 16000000 in
set_option maxRecDepth 100000 in
theorem law_46 {p : Program} {l : Launch} {e : Env} {s : State} {m : MethodId} {below : List Frame} {meth : Method} {c : Code} {b L : Nat} {xs : Nat → Int32} {D : va_G} {cI cZ cQ cL : ClassId} {Q : State → Prop} (hfl : l.stackTraces = false) (hL : L ≤ 260) (hx : p.tables.exec = Jvm.exec) (hb : c.code = cL_law) (hml : c.maxLocals = 15) (hown : s.vm.findClass RL = some m.cls) (hts : ∀ w ∈ wsL_law, w.before #[Value.ref b] s = true) (hXs : va_X b L xs s s.heap) (hbl : b < s.heap.size) (hK : va_K D vwCl (TY cI cZ cQ cL) s) (hN : NK s) (hXK : XK s.heap.size s) {q0 q1 q2 : Nat} {ad : Nat → Nat} (i : Nat) (hi : i < 120) (kk : ∀ y, y < 2 ^ 30 → LN p l e s m below meth c b D cI cZ cQ Q q0 q1 q2 ad (i + 1) [(0, .ref (b)), (1, .ref (ad 0)), (2, .ref (q0)), (3, .ref (q1)), (4, .ref (q2)), (5, .int (nI (1))), (6, .int (nI (i))), (9, .int (nI (y)))] (200 + 80 * i + 5) (1000 + 500 * i + 40) 758) : LN p l e s m below meth c b D cI cZ cQ Q q0 q1 q2 ad i [(0, .ref (b)), (1, .ref (ad 0)), (2, .ref (q0)), (3, .ref (q1)), (4, .ref (q2)), (5, .int (nI (1))), (6, .int (nI (i)))] (200 + 80 * i) (1000 + 500 * i) 46 := by
  have hA : ∀ q : Nat, s.heap.size ≤ q → (fun q : Nat => s.heap.size ≤ q) q := fun _ h => h
  have hbA : ¬ (fun q : Nat => s.heap.size ≤ q) b := Nat.not_le.mpr hbl
  intro pat sent rep kept rc los wai set bad gon bk bp bv ck cp cv ek em dat hJ H locs hP hD hS ls hl
  obtain ⟨⟨hrc, hlos, hwai, hset, hbad, hgon, hbk, hpa, hse, hbp, hbv, hlv, hp1⟩, hbk1, hs16, hr6, hk6⟩ := id hJ
  refine lv_iload hx hb dL_law_46 (lv_at hl 6 rfl) ?_
  refine lv_bipush (v := nI (120)) hx hb dL_law_48 (by decide) ?_
  refine q_icmp_ge (u := ((i : Nat) : Int)) (v := ((120 : Nat) : Int)) (tgt := 797) hx hb dL_law_50 (by decide) (nI_toInt (by omega)) (nI_toInt (by omega)) (fun c_50 => absurd c_50 (by omega)) (fun c_50 => ?_)
  refine lv_iload hx hb dL_law_53 (lv_at hl 5 rfl) ?_
  refine q_if_eq (u := ((1 : Nat) : Int)) (tgt := 797) hx hb dL_law_55 (by decide) (nI_toInt (by omega)) (fun c_55 => absurd c_55 (by decide)) (fun _ => ?_)
  refine lv_iload hx hb dL_law_58 (lv_at hl 6 rfl) ?_
  refine lv_aload_n hx hb dL_law_60 rfl (lv_at hl 0 rfl) ?_
  refine va_slen hx hb hXs hbl hbA hS dL_law_61 ?_
  refine q_top (show (Int32.ofNat L) = nI (L) from rfl) ?_
  refine q_icmp_ge (u := ((i : Nat) : Int)) (v := ((L : Nat) : Int)) (tgt := 75) hx hb dL_law_62 (by decide) (nI_toInt (by omega)) (nI_toInt (by omega)) (fun c_62 => ?_) (fun c_62 => ?_)
  · skip
    refine lv_ldc (v := 48017) hx hb hown (hts _ lk_92) dL_law_75 ?_
    refine lv_iload hx hb dL_law_77 (lv_at hl 6 rfl) ?_
    refine lv_imul hx hb dL_law_79 ?_
    refine lv_iload hx hb dL_law_80 (lv_at hl 6 rfl) ?_
    refine lv_imul hx hb dL_law_82 ?_
    refine lv_sipush (v := nI (9001)) hx hb dL_law_83 (by decide) ?_
    refine lv_iload hx hb dL_law_86 (lv_at hl 6 rfl) ?_
    refine lv_imul hx hb dL_law_88 ?_
    refine q_top (show (nI (9001) * nI (i)) = nI (9001 * i) from pk_mul _ _) ?_
    refine lv_iadd hx hb dL_law_89 ?_
    refine lv_bipush (v := nI (37)) hx hb dL_law_90 (by decide) ?_
    refine lv_iadd hx hb dL_law_92 ?_
    refine lv_ldc (v := 2147483647) hx hb hown (hts _ lk_91) dL_law_93 ?_
    refine lv_iand hx hb dL_law_95 ?_
    obtain ⟨xx, hxx, exx⟩ := pk_andE (((((48017) * nI (i)) * nI (i)) + nI (9001 * i)) + nI (37)) (m := 2147483647) 31 (by decide)
    refine q_top (show ((((((48017) * nI (i)) * nI (i)) + nI (9001 * i)) + nI (37)) &&& (2147483647)) = nI (xx) from exx) ?_
    refine lv_istore (lv' := [(7, .int (nI (xx))), (0, .ref (b)), (1, .ref (ad 0)), (2, .ref (q0)), (3, .ref (q1)), (4, .ref (q2)), (5, .int (nI (1))), (6, .int (nI (i)))]) hx hb dL_law_96 hl (by decide) rfl (fun ls hl => ?_)
    have hP : va_P D vwCl ((wF cI cZ cQ ad (pat) (sent) (rep) (kept) (rc) (los) (wai) (set) (bad) (gon) (bk) (bp) (bv) (ck) (cp) (cv) (ek) (em)) ++ (wT cI q0 q1 q2 (nA bk pat sent rc rep kept) dat (rA los wai set bad gon))) H := hP
    have hD : va_D (fun q : Nat => s.heap.size ≤ q) ((wF cI cZ cQ ad (pat) (sent) (rep) (kept) (rc) (los) (wai) (set) (bad) (gon) (bk) (bp) (bv) (ck) (cp) (cv) (ek) (em)) ++ (wT cI q0 q1 q2 (nA bk pat sent rc rep kept) dat (rA los wai set bad gon))) := hD
    exact law_98 hfl hL hx hb hml hown hts hXs hbl hK hN hXK i xx hi hxx kk pat sent rep kept rc los wai set bad gon bk bp bv ck cp cv ek em dat hJ H locs hP hD hS ls (lv_sub hl [1, 2, 3, 4, 5, 6, 7, 0] rfl)
  · skip
    refine lv_aload_n hx hb dL_law_65 rfl (lv_at hl 0 rfl) ?_
    refine lv_iload hx hb dL_law_66 (lv_at hl 6 rfl) ?_
    refine va_sld hx hb hXs hbl hbA hS (vp_in_nI (by omega) (by omega)) dL_law_68 ?_
    refine lv_ldc (v := 2147483647) hx hb hown (hts _ lk_91) dL_law_69 ?_
    refine lv_iand hx hb dL_law_71 ?_
    obtain ⟨xx, hxx, exx⟩ := pk_andE (xs (nI (i)).toNatClampNeg) (m := 2147483647) 31 (by decide)
    refine q_top (show ((xs (nI (i)).toNatClampNeg) &&& (2147483647)) = nI (xx) from exx) ?_
    refine lv_goto (tgt := 96) hx hb dL_law_72 (by decide) ?_
    refine lv_istore (lv' := [(7, .int (nI (xx))), (0, .ref (b)), (1, .ref (ad 0)), (2, .ref (q0)), (3, .ref (q1)), (4, .ref (q2)), (5, .int (nI (1))), (6, .int (nI (i)))]) hx hb dL_law_96 hl (by decide) rfl (fun ls hl => ?_)
    have hP : va_P D vwCl ((wF cI cZ cQ ad (pat) (sent) (rep) (kept) (rc) (los) (wai) (set) (bad) (gon) (bk) (bp) (bv) (ck) (cp) (cv) (ek) (em)) ++ (wT cI q0 q1 q2 (nA bk pat sent rc rep kept) dat (rA los wai set bad gon))) H := hP
    have hD : va_D (fun q : Nat => s.heap.size ≤ q) ((wF cI cZ cQ ad (pat) (sent) (rep) (kept) (rc) (los) (wai) (set) (bad) (gon) (bk) (bp) (bv) (ck) (cp) (cv) (ek) (em)) ++ (wT cI q0 q1 q2 (nA bk pat sent rc rep kept) dat (rA los wai set bad gon))) := hD
    exact law_98 hfl hL hx hb hml hown hts hXs hbl hK hN hXK i xx hi hxx kk pat sent rep kept rc los wai set bad gon bk bp bv ck cp cv ek em dat hJ H locs hP hD hS ls (lv_sub hl [1, 2, 3, 4, 5, 6, 7, 0] rfl)

set_option maxHeartbeats 16000000 in
set_option maxRecDepth 100000 in
theorem law_exit {p : Program} {l : Launch} {e : Env} {s : State} {m : MethodId} {below : List Frame} {meth : Method} {c : Code} {b L : Nat} {xs : Nat → Int32} {D : va_G} {cI cZ cQ cL : ClassId} {Q : State → Prop} (hfl : l.stackTraces = false) (hL : L ≤ 260) (hx : p.tables.exec = Jvm.exec) (hb : c.code = cL_law) (hml : c.maxLocals = 15) (hown : s.vm.findClass RL = some m.cls) (hts : ∀ w ∈ wsL_law, w.before #[Value.ref b] s = true) (hXs : va_X b L xs s s.heap) (hbl : b < s.heap.size) (hK : va_K D vwCl (TY cI cZ cQ cL) s) (hN : NK s) (hXK : XK s.heap.size s) {q0 q1 q2 : Nat} {ad : Nat → Nat} (i : Nat) (hi : i = 120) (kend : ∀ (H : Heap) (locs : List Loc) (ls : Array Slot) (cells slots : Nat), (∀ q ∈ locs, s.heap.size ≤ q.base) → cells ≤ 659595 → slots ≤ 7122396 → W p l e room_1 s m #[Value.ref b] below meth c H locs cells slots Q (F0 m 815 ls [])) : LN p l e s m below meth c b D cI cZ cQ Q q0 q1 q2 ad i [(0, .ref (b)), (1, .ref (ad 0)), (2, .ref (q0)), (3, .ref (q1)), (4, .ref (q2)), (5, .int (nI (1))), (6, .int (nI (i)))] (200 + 80 * i) (1000 + 500 * i) 46 := by
  have hA : ∀ q : Nat, s.heap.size ≤ q → (fun q : Nat => s.heap.size ≤ q) q := fun _ h => h
  have hbA : ¬ (fun q : Nat => s.heap.size ≤ q) b := Nat.not_le.mpr hbl
  intro pat sent rep kept rc los wai set bad gon bk bp bv ck cp cv ek em dat hJ H locs hP hD hS ls hl
  obtain ⟨⟨hrc, hlos, hwai, hset, hbad, hgon, hbk, hpa, hse, hbp, hbv, hlv, hp1⟩, hbk1, hs16, hr6, hk6⟩ := id hJ
  refine lv_iload hx hb dL_law_46 (lv_at hl 6 rfl) ?_
  refine lv_bipush (v := nI (120)) hx hb dL_law_48 (by decide) ?_
  refine q_icmp_ge (u := ((i : Nat) : Int)) (v := ((120 : Nat) : Int)) (tgt := 797) hx hb dL_law_50 (by decide) (nI_toInt (by omega)) (nI_toInt (by omega)) (fun c_50 => ?_) (fun c_50 => absurd c_50 (by omega))
  refine lv_iload hx hb dL_law_797 (lv_at hl 5 rfl) ?_
  refine q_if_eq (u := ((1 : Nat) : Int)) (tgt := 819) hx hb dL_law_799 (by decide) (nI_toInt (by omega)) (fun c_799 => absurd c_799 (by decide)) (fun _ => ?_)
  refine lv_aload_n hx hb dL_law_802 rfl (lv_at hl 1 rfl) ?_
  refine lv_aload_n hx hb dL_law_803 rfl (lv_at hl 2 rfl) ?_
  refine lv_aload_n hx hb dL_law_804 rfl (lv_at hl 3 rfl) ?_
  refine lv_aload hx hb dL_law_805 (lv_at hl 4 rfl) ?_
  refine lv_bipush (v := nI (77)) hx hb dL_law_807 (by decide) ?_
  refine j_ci (wc := ((wF cI cZ cQ ad (pat) (sent) (rep) (kept) (rc) (los) (wai) (set) (bad) (gon) (bk) (bp) (bv) (ck) (cp) (cv) (ek) (em)) ++ (wT cI q0 q1 q2 (nA bk pat sent rc rep kept) dat (rA los wai set bad gon)))) (pl := []) (w1 := fun u9 => u9) (va_runS (As := [.ref (ad 0), .ref (q0), .ref (q1), .ref (q2), .int (nI (77))]) (rest := []) ⟨hx, hb, hml, hown, hts⟩ (c_L_isSender l D cI cZ cQ cL hfl s.heap.size ad pat sent rep kept rc los wai set bad gon bk bp bv ck cp cv ek em q0 q1 q2 dat (77) H.size hrc hset hgon hbk hbk1 hbp hbv (by omega) (by omega) (by omega) hbad (by omega) (j_b0 hD hS.1)) (va_cwS 5 hts gL_law_L_isSender rfl rfl rfl hd_L_isSender ⟨Nat.le_of_ble_eq_true rfl, Nat.le_of_ble_eq_true rfl⟩) (PX_s hP hK hD hN hXK hS.2.1) rfl rfl hl.1 rfl (lv_room (Nat.le_of_ble_eq_true rfl)) dL_law_809 ⟨by show _ ≤ 659595; omega, by show _ ≤ 7122396; omega⟩) (by rw [List.append_nil]; exact hP) (by rw [List.append_nil]; exact hD) hS hA (fun r_809 u_809 H locs hq_809 hP hD hS => ?_)
  obtain ⟨rfl, ck, cp, cv, ek, em, rfl⟩ := hq_809
  rw [List.append_nil] at hP hD
  have hP : va_P D vwCl ((wF cI cZ cQ ad (pat) (sent) (rep) (kept) (rc) (los) (wai) (set) (bad) (gon) (bk) (bp) (bv) (ck) (cp) (cv) (ek) (em)) ++ (wT cI q0 q1 q2 (nA bk pat sent rc rep kept) dat (rA los wai set bad gon))) H := hP
  have hD : va_D (fun q : Nat => s.heap.size ≤ q) ((wF cI cZ cQ ad (pat) (sent) (rep) (kept) (rc) (los) (wai) (set) (bad) (gon) (bk) (bp) (bv) (ck) (cp) (cv) (ek) (em)) ++ (wT cI q0 q1 q2 (nA bk pat sent rc rep kept) dat (rA los wai set bad gon))) := hD
  refine q_if_eq (u := ((1 : Nat) : Int)) (tgt := 819) hx hb dL_law_812 (by decide) (nI_toInt (by omega)) (fun c_812 => absurd c_812 (by decide)) (fun _ => ?_)
  exact kend H locs ls _ _ hS.2.2 (by omega) (by omega)

/-- the law's loop, from its head -/
theorem law_loop {p : Program} {l : Launch} {e : Env} {s : State} {m : MethodId} {below : List Frame} {meth : Method} {c : Code} {b L : Nat} {xs : Nat → Int32} {D : va_G} {cI cZ cQ cL : ClassId} {Q : State → Prop} (hfl : l.stackTraces = false) (hL : L ≤ 260) (hx : p.tables.exec = Jvm.exec) (hb : c.code = cL_law) (hml : c.maxLocals = 15) (hown : s.vm.findClass RL = some m.cls) (hts : ∀ w ∈ wsL_law, w.before #[Value.ref b] s = true) (hXs : va_X b L xs s s.heap) (hbl : b < s.heap.size) (hK : va_K D vwCl (TY cI cZ cQ cL) s) (hN : NK s) (hXK : XK s.heap.size s) {q0 q1 q2 : Nat} {ad : Nat → Nat} (kend : ∀ (H : Heap) (locs : List Loc) (ls : Array Slot) (cells slots : Nat), (∀ q ∈ locs, s.heap.size ≤ q.base) → cells ≤ 659595 → slots ≤ 7122396 → W p l e room_1 s m #[Value.ref b] below meth c H locs cells slots Q (F0 m 815 ls [])) : ∀ (n i : Nat), 120 < i + n → i ≤ 120 → LN p l e s m below meth c b D cI cZ cQ Q q0 q1 q2 ad i [(0, .ref (b)), (1, .ref (ad 0)), (2, .ref (q0)), (3, .ref (q1)), (4, .ref (q2)), (5, .int (nI (1))), (6, .int (nI (i)))] (200 + 80 * i) (1000 + 500 * i) 46 := by
  intro n
  induction n with
  | zero =>
    intro i h1 h2
    exact absurd h1 (by omega)
  | succ n ih =>
    intro i h1 h2
    by_cases hi : i < 120
    · exact law_46 hfl hL hx hb hml hown hts hXs hbl hK hN hXK i hi (fun y hy => law_758 hfl hL hx hb hml hown hts hXs hbl hK hN hXK i y hi hy (ih (i + 1) (by omega) (by omega)))
    · exact law_exit hfl hL hx hb hml hown hts hXs hbl hK hN hXK i (by omega) kend
