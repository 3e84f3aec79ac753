set_option maxHeartbeats 16000000 in
set_option maxRecDepth 100000 in
theorem law_A {p : Program} {l : Launch} {e : Env} {s : State} {m : MethodId} {below : List Frame} {meth : Method} {c : Code} {b L : Nat} {xs : Nat → Int32} {D : va_G} {cI cZ cQ cL : ClassId} {Q : State → Prop} (hfl : l.stackTraces = false) (hL : L ≤ 260) (hx : p.tables.exec = Jvm.exec) (hb : c.code = cL_law) (hml : c.maxLocals = 15) (hown : s.vm.findClass RL = some m.cls) (hts : ∀ w ∈ wsL_law, w.before #[Value.ref b] s = true) (hXs : va_X b L xs s s.heap) (hbl : b < s.heap.size) (hK : va_K D vwCl (TY cI cZ cQ cL) s) (hN : NK s) (hXK : XK s.heap.size s) {q0 q1 q2 : Nat} {ad : Nat → Nat} (i y : Nat) (hi : i < 120) (hy : y < 2 ^ 30) (kk : LN p l e s m below meth c b D cI cZ cQ Q q0 q1 q2 ad (i + 1) [(0, .ref (b)), (1, .ref (ad 0)), (2, .ref (q0)), (3, .ref (q1)), (4, .ref (q2)), (5, .int (nI (1))), (6, .int (nI (i))), (9, .int (nI (y)))] (200 + 80 * i + 5) (1000 + 500 * i + 40) 758) (pat : Nat) (sent : Nat) (rep : Nat) (kept : Nat) (rc : Nat) (los : Nat → Nat) (wai : Nat → Nat) (set : Nat → Nat) (bad : Nat → Nat) (gon : Nat → Nat) (bk : Nat) (bp : Nat → B8) (bv : Nat → B8) (ck : Nat) (cp : Nat → B8) (cv : Nat → B8) (ek : Nat) (em : Nat → Nat → B8) (dat : Nat → B8) (hJ : LJ i bk pat sent rep kept rc los wai set bad gon bp bv dat)  (H : Heap) (locs : List Loc) (hP : va_P D vwCl ((wF cI cZ cQ ad (pat) (sent) (rep) (kept) (rc) (los) (wai) (set) (bad) (gon) (bk) (bp) (bv) (ck) (cp) (cv) (ek) (em)) ++ (wT cI q0 q1 q2 (nA bk pat sent rc rep kept) dat (rA los wai set bad gon))) H) (hD : va_D (fun q : Nat => s.heap.size ≤ q) ((wF cI cZ cQ ad (pat) (sent) (rep) (kept) (rc) (los) (wai) (set) (bad) (gon) (bk) (bp) (bv) (ck) (cp) (cv) (ek) (em)) ++ (wT cI q0 q1 q2 (nA bk pat sent rc rep kept) dat (rA los wai set bad gon)))) (hS : va_S (fun q : Nat => s.heap.size ≤ q) s.heap H locs) (ls : Array Slot) (hl : lv_has ls 15 [(0, .ref (b)), (1, .ref (ad 0)), (2, .ref (q0)), (3, .ref (q1)), (4, .ref (q2)), (5, .int (nI (1))), (6, .int (nI (i))), (9, .int (nI (y)))]) : W p l e room_1 s m #[Value.ref b] below meth c H locs (200 + 80 * i) (1000 + 500 * i) Q (F0 m 187 ls []) := by
  have hA : ∀ q : Nat, s.heap.size ≤ q → (fun q : Nat => s.heap.size ≤ q) q := fun _ h => h
  obtain ⟨⟨hrc, hlos, hwai, hset, hbad, hgon, hbk, hpa, hse, hbp, hbv, hlv, hp1⟩, hbk1, hs16, hr6, hk6⟩ := id hJ
  refine lv_aload_n hx hb dL_law_187 rfl (lv_at hl 1 rfl) ?_
  refine lv_iconst (v := nI (1)) hx hb dL_law_188 (by decide) ?_
  refine lv_iload hx hb dL_law_189 (lv_at hl 7 rfl) ?_
  refine lv_bipush (v := nI (8)) hx hb dL_law_191 (by decide) ?_
  refine lv_irem hx hb dL_law_193 (by decide) ?_
  refine q_top (show (nI (y) - nI (y) / nI (8) * nI (8)) = nI (y % 8) from pk_rem (by omega) (by decide) (by decide)) ?_
  refine lv_iadd hx hb dL_law_194 ?_
  refine q_top (show (nI (1) + nI (y % 8)) = nI (1 + (y % 8)) from nI_add _ _) ?_
  refine lv_iconst (v := nI (1)) hx hb dL_law_195 (by decide) ?_
  refine lv_iload hx hb dL_law_196 (lv_at hl 7 rfl) ?_
  refine lv_bipush (v := nI (8)) hx hb dL_law_198 (by decide) ?_
  refine lv_idiv hx hb dL_law_200 (by decide) ?_
  refine q_top (show (nI (y) / nI (8)) = nI (y / 8) from pk_div (by omega) (by decide) (by decide)) ?_
  refine lv_bipush (v := nI (20)) hx hb dL_law_201 (by decide) ?_
  refine lv_irem hx hb dL_law_203 (by decide) ?_
  refine q_top (show (nI (y / 8) - nI (y / 8) / nI (20) * nI (20)) = nI ((y / 8) % 20) from pk_rem (by omega) (by decide) (by decide)) ?_
  refine lv_iadd hx hb dL_law_204 ?_
  refine q_top (show (nI (1) + nI ((y / 8) % 20)) = nI (1 + ((y / 8) % 20)) from nI_add _ _) ?_
  have t0 : tn (nI (1 + (y % 8))) = 1 + (y % 8) := tn_nI (by omega)
  have t1 : tn (nI (1 + ((y / 8) % 20))) = 1 + ((y / 8) % 20) := tn_nI (by omega)
  refine j_xci (wc := (wA cI cZ ad pat sent rep kept rc los wai set bad gon bk bp bv)) (pl := ((wK cI cQ ad ck cp cv ek em) ++ (wT cI q0 q1 q2 (nA bk pat sent rc rep kept) dat (rA los wai set bad gon)))) (w1 := fun _ => (wA cI cZ ad (tn (nI (1 + ((y / 8) % 20)))) 0 0 0 0 los wai set bad gon (tn (nI (1 + (y % 8)))) (idp (tn (nI (1 + (y % 8)))) bp) (zrv (tn (nI (1 + (y % 8)))) bv))) (vx_runV (As := [.int (nI (1 + (y % 8))), .int (nI (1 + ((y / 8) % 20)))]) (rest := []) ⟨hx, hb, hml, hown, hts⟩ (c_X3_begin l D cI cZ cQ cL hfl s.heap.size ad pat sent rep kept rc los wai set bad gon bk bp bv (nI (1 + (y % 8))) (nI (1 + ((y / 8) % 20))) H.size ) (cwV 2 hts gL_law_X3_begin rfl rfl rfl ⟨rfl, hd_X3_begin⟩ ⟨Nat.le_of_ble_eq_true rfl, Nat.le_of_ble_eq_true rfl⟩) (PX_v (q := (RX3, TX3, 13)) (ci := 2) (q0 := 0) (jP_l (jF_P hP)) hK (jD_l (jF_D hD)) hN hXK hS.2.1 rfl rfl) rfl rfl hl.1 rfl (lv_room (Nat.le_of_ble_eq_true rfl)) dL_law_205 ⟨by show _ ≤ 659595; omega, by show _ ≤ 7122396; omega⟩) (jF_P hP) (jF_D hD) hS hA (fun E hE => ?_) (fun r_205 H locs hq_205 hP hD hS => ?_)
  · exact hE.2 ⟨n_in (lo := 1) (hi := 8) (by decide) (by omega) (by omega), n_in (lo := 1) (hi := 20) (by decide) (by omega) (by omega)⟩
  · rw [t0, t1] at hP hD
    have hP := jF_P' hP
    have hD := jF_D' hD
    have hP : va_P D vwCl ((wF cI cZ cQ ad (1 + ((y / 8) % 20)) (0) (0) (0) (0) (los) (wai) (set) (bad) (gon) (1 + (y % 8)) (idp (1 + (y % 8)) bp) (zrv (1 + (y % 8)) bv) (ck) (cp) (cv) (ek) (em)) ++ (wT cI q0 q1 q2 (nA bk pat sent rc rep kept) dat (rA los wai set bad gon))) H := hP
    have hD : va_D (fun q : Nat => s.heap.size ≤ q) ((wF cI cZ cQ ad (1 + ((y / 8) % 20)) (0) (0) (0) (0) (los) (wai) (set) (bad) (gon) (1 + (y % 8)) (idp (1 + (y % 8)) bp) (zrv (1 + (y % 8)) bv) (ck) (cp) (cv) (ek) (em)) ++ (wT cI q0 q1 q2 (nA bk pat sent rc rep kept) dat (rA los wai set bad gon))) := hD
    obtain rfl : r_205 = nI (sent) := hq_205.1
    refine lv_aload_n hx hb dL_law_208 rfl (lv_at hl 2 rfl) ?_
    refine lv_iconst (v := nI (2)) hx hb dL_law_209 (by decide) ?_
    refine q_iald (f := (nA bk pat sent rc rep kept)) (j := 2) hx hb hK (jP_r hP) 0 0 rfl rfl (by decide) (by decide) dL_law_210 ?_
    refine q_top (show nI ((nA bk pat sent rc rep kept) 2) = nI (sent) from rfl) ?_
    refine q_icmp_ne (u := ((sent : Nat) : Int)) (v := ((sent : Nat) : Int)) (tgt := 218) hx hb dL_law_211 (by decide) (nI_toInt (by omega)) (nI_toInt (by omega)) (fun c_211 => absurd c_211 (fun z => z rfl)) (fun c_211 => ?_)
    refine lv_iconst (v := nI (1)) hx hb dL_law_214 (by decide) ?_
    refine lv_goto (tgt := 219) hx hb dL_law_215 (by decide) ?_
    refine lv_istore (lv' := [(5, .int (nI (1))), (0, .ref (b)), (1, .ref (ad 0)), (2, .ref (q0)), (3, .ref (q1)), (4, .ref (q2)), (6, .int (nI (i))), (9, .int (nI (y)))]) hx hb dL_law_219 hl (by decide) rfl (fun ls hl => ?_)
    refine lv_iconst (v := nI (0)) hx hb dL_law_221 (by decide) ?_
    refine lv_istore (lv' := [(12, .int (nI (0))), (5, .int (nI (1))), (0, .ref (b)), (1, .ref (ad 0)), (2, .ref (q0)), (3, .ref (q1)), (4, .ref (q2)), (6, .int (nI (i))), (9, .int (nI (y)))]) hx hb dL_law_222 hl (by decide) rfl (fun ls hl => ?_)
    have L224_2 : ∀ (n224_2 : Nat) (j : Nat), 9 - j < n224_2 → (j ≤ 8) → ∀ (H : Heap) (locs : List Loc), va_P D vwCl ((wF cI cZ cQ ad (1 + ((y / 8) % 20)) (0) (0) (0) (0) (los) (wai) (set) (bad) (gon) (1 + (y % 8)) (idp (1 + (y % 8)) bp) (zrv (1 + (y % 8)) bv) (ck) (cp) (cv) (ek) (em)) ++ (wT cI q0 q1 q2 (nA bk pat sent rc rep kept) (zrv j dat) (rA los wai set bad gon))) H → va_D (fun q : Nat => s.heap.size ≤ q) ((wF cI cZ cQ ad (1 + ((y / 8) % 20)) (0) (0) (0) (0) (los) (wai) (set) (bad) (gon) (1 + (y % 8)) (idp (1 + (y % 8)) bp) (zrv (1 + (y % 8)) bv) (ck) (cp) (cv) (ek) (em)) ++ (wT cI q0 q1 q2 (nA bk pat sent rc rep kept) (zrv j dat) (rA los wai set bad gon))) → va_S (fun q : Nat => s.heap.size ≤ q) s.heap H locs → ∀ (ls : Array Slot), lv_has ls 15 [(0, .ref (b)), (1, .ref (ad 0)), (2, .ref (q0)), (3, .ref (q1)), (4, .ref (q2)), (5, .int (nI (1))), (6, .int (nI (i))), (9, .int (nI (y))), (12, .int (nI (j)))] → W p l e room_1 s m #[Value.ref b] below meth c H locs (200 + 80 * i + 1) (1000 + 500 * i + 6) Q (F0 m 224 ls []) := by
      intro n224_2
      induction n224_2 with
      | zero =>
        intro j hn224_2
        exact absurd hn224_2 (Nat.not_lt_zero _)
      | succ n224_2 ih224_2 =>
        intro j hn224_2 hj H locs hP hD hS ls hl
        refine lv_iload hx hb dL_law_224 (lv_at hl 8 rfl) ?_
        refine lv_bipush (v := nI (8)) hx hb dL_law_226 (by decide) ?_
        refine q_icmp_ge (u := ((j : Nat) : Int)) (v := ((8 : Nat) : Int)) (tgt := 242) hx hb dL_law_228 (by decide) (nI_toInt (by omega)) (nI_toInt (by omega)) (fun c_228 => ?_) (fun c_228 => ?_)
        · obtain rfl : 8 = j := by omega
          refine lv_aload_n hx hb dL_law_242 rfl (lv_at hl 2 rfl) ?_
          refine lv_iconst (v := nI (0)) hx hb dL_law_243 (by decide) ?_
          refine lv_iconst (v := nI (1)) hx hb dL_law_244 (by decide) ?_
          refine lv_iload hx hb dL_law_245 (lv_at hl 7 rfl) ?_
          refine lv_bipush (v := nI (8)) hx hb dL_law_247 (by decide) ?_
          refine lv_irem hx hb dL_law_249 (by decide) ?_
          refine q_top (show (nI (y) - nI (y) / nI (8) * nI (8)) = nI (y % 8) from pk_rem (by omega) (by decide) (by decide)) ?_
          refine lv_iadd hx hb dL_law_250 ?_
          refine q_top (show (nI (1) + nI (y % 8)) = nI (1 + (y % 8)) from nI_add _ _) ?_
          refine q_iast (f := (nA bk pat sent rc rep kept)) (j := 0) (y := 1 + (y % 8)) hx hb hK (jP_w hP) (jD_w hD) hS 0 0 rfl rfl (by decide) (by decide) dL_law_251 (fun H locs hP hD hS => ?_)
          have hP : va_P D vwCl ((wT cI q0 q1 q2 (un (nA bk pat sent rc rep kept) 0 (1 + (y % 8))) (zrv 8 dat) (rA los wai set bad gon)) ++ (wF cI cZ cQ ad (1 + ((y / 8) % 20)) (0) (0) (0) (0) (los) (wai) (set) (bad) (gon) (1 + (y % 8)) (idp (1 + (y % 8)) bp) (zrv (1 + (y % 8)) bv) (ck) (cp) (cv) (ek) (em))) H := hP
          have hD : va_D (fun q : Nat => s.heap.size ≤ q) ((wT cI q0 q1 q2 (un (nA bk pat sent rc rep kept) 0 (1 + (y % 8))) (zrv 8 dat) (rA los wai set bad gon)) ++ (wF cI cZ cQ ad (1 + ((y / 8) % 20)) (0) (0) (0) (0) (los) (wai) (set) (bad) (gon) (1 + (y % 8)) (idp (1 + (y % 8)) bp) (zrv (1 + (y % 8)) bv) (ck) (cp) (cv) (ek) (em))) := hD
          rw [unA_0] at hP hD
          have hP := jP_w hP
          have hD := jD_w hD
          have hP : va_P D vwCl ((wF cI cZ cQ ad (1 + ((y / 8) % 20)) (0) (0) (0) (0) (los) (wai) (set) (bad) (gon) (1 + (y % 8)) (idp (1 + (y % 8)) bp) (zrv (1 + (y % 8)) bv) (ck) (cp) (cv) (ek) (em)) ++ (wT cI q0 q1 q2 (nA (1 + (y % 8)) pat sent rc rep kept) (zrv 8 dat) (rA los wai set bad gon))) H := hP
          have hD : va_D (fun q : Nat => s.heap.size ≤ q) ((wF cI cZ cQ ad (1 + ((y / 8) % 20)) (0) (0) (0) (0) (los) (wai) (set) (bad) (gon) (1 + (y % 8)) (idp (1 + (y % 8)) bp) (zrv (1 + (y % 8)) bv) (ck) (cp) (cv) (ek) (em)) ++ (wT cI q0 q1 q2 (nA (1 + (y % 8)) pat sent rc rep kept) (zrv 8 dat) (rA los wai set bad gon))) := hD
          refine lv_aload_n hx hb dL_law_252 rfl (lv_at hl 2 rfl) ?_
          refine lv_iconst (v := nI (1)) hx hb dL_law_253 (by decide) ?_
          refine lv_iconst (v := nI (1)) hx hb dL_law_254 (by decide) ?_
          refine lv_iload hx hb dL_law_255 (lv_at hl 7 rfl) ?_
          refine lv_bipush (v := nI (8)) hx hb dL_law_257 (by decide) ?_
          refine lv_idiv hx hb dL_law_259 (by decide) ?_
          refine q_top (show (nI (y) / nI (8)) = nI (y / 8) from pk_div (by omega) (by decide) (by decide)) ?_
          refine lv_bipush (v := nI (20)) hx hb dL_law_260 (by decide) ?_
          refine lv_irem hx hb dL_law_262 (by decide) ?_
          refine q_top (show (nI (y / 8) - nI (y / 8) / nI (20) * nI (20)) = nI ((y / 8) % 20) from pk_rem (by omega) (by decide) (by decide)) ?_
          refine lv_iadd hx hb dL_law_263 ?_
          refine q_top (show (nI (1) + nI ((y / 8) % 20)) = nI (1 + ((y / 8) % 20)) from nI_add _ _) ?_
          refine q_iast (f := (nA (1 + (y % 8)) pat sent rc rep kept)) (j := 1) (y := 1 + ((y / 8) % 20)) hx hb hK (jP_w hP) (jD_w hD) hS 0 0 rfl rfl (by decide) (by decide) dL_law_264 (fun H locs hP hD hS => ?_)
          have hP : va_P D vwCl ((wT cI q0 q1 q2 (un (nA (1 + (y % 8)) pat sent rc rep kept) 1 (1 + ((y / 8) % 20))) (zrv 8 dat) (rA los wai set bad gon)) ++ (wF cI cZ cQ ad (1 + ((y / 8) % 20)) (0) (0) (0) (0) (los) (wai) (set) (bad) (gon) (1 + (y % 8)) (idp (1 + (y % 8)) bp) (zrv (1 + (y % 8)) bv) (ck) (cp) (cv) (ek) (em))) H := hP
          have hD : va_D (fun q : Nat => s.heap.size ≤ q) ((wT cI q0 q1 q2 (un (nA (1 + (y % 8)) pat sent rc rep kept) 1 (1 + ((y / 8) % 20))) (zrv 8 dat) (rA los wai set bad gon)) ++ (wF cI cZ cQ ad (1 + ((y / 8) % 20)) (0) (0) (0) (0) (los) (wai) (set) (bad) (gon) (1 + (y % 8)) (idp (1 + (y % 8)) bp) (zrv (1 + (y % 8)) bv) (ck) (cp) (cv) (ek) (em))) := hD
          rw [unA_1] at hP hD
          have hP := jP_w hP
          have hD := jD_w hD
          have hP : va_P D vwCl ((wF cI cZ cQ ad (1 + ((y / 8) % 20)) (0) (0) (0) (0) (los) (wai) (set) (bad) (gon) (1 + (y % 8)) (idp (1 + (y % 8)) bp) (zrv (1 + (y % 8)) bv) (ck) (cp) (cv) (ek) (em)) ++ (wT cI q0 q1 q2 (nA (1 + (y % 8)) (1 + ((y / 8) % 20)) sent rc rep kept) (zrv 8 dat) (rA los wai set bad gon))) H := hP
          have hD : va_D (fun q : Nat => s.heap.size ≤ q) ((wF cI cZ cQ ad (1 + ((y / 8) % 20)) (0) (0) (0) (0) (los) (wai) (set) (bad) (gon) (1 + (y % 8)) (idp (1 + (y % 8)) bp) (zrv (1 + (y % 8)) bv) (ck) (cp) (cv) (ek) (em)) ++ (wT cI q0 q1 q2 (nA (1 + (y % 8)) (1 + ((y / 8) % 20)) sent rc rep kept) (zrv 8 dat) (rA los wai set bad gon))) := hD
          refine lv_aload_n hx hb dL_law_265 rfl (lv_at hl 2 rfl) ?_
          refine lv_iconst (v := nI (2)) hx hb dL_law_266 (by decide) ?_
          refine lv_iconst (v := nI (0)) hx hb dL_law_267 (by decide) ?_
          refine q_iast (f := (nA (1 + (y % 8)) (1 + ((y / 8) % 20)) sent rc rep kept)) (j := 2) (y := 0) hx hb hK (jP_w hP) (jD_w hD) hS 0 0 rfl rfl (by decide) (by decide) dL_law_268 (fun H locs hP hD hS => ?_)
          have hP : va_P D vwCl ((wT cI q0 q1 q2 (un (nA (1 + (y % 8)) (1 + ((y / 8) % 20)) sent rc rep kept) 2 0) (zrv 8 dat) (rA los wai set bad gon)) ++ (wF cI cZ cQ ad (1 + ((y / 8) % 20)) (0) (0) (0) (0) (los) (wai) (set) (bad) (gon) (1 + (y % 8)) (idp (1 + (y % 8)) bp) (zrv (1 + (y % 8)) bv) (ck) (cp) (cv) (ek) (em))) H := hP
          have hD : va_D (fun q : Nat => s.heap.size ≤ q) ((wT cI q0 q1 q2 (un (nA (1 + (y % 8)) (1 + ((y / 8) % 20)) sent rc rep kept) 2 0) (zrv 8 dat) (rA los wai set bad gon)) ++ (wF cI cZ cQ ad (1 + ((y / 8) % 20)) (0) (0) (0) (0) (los) (wai) (set) (bad) (gon) (1 + (y % 8)) (idp (1 + (y % 8)) bp) (zrv (1 + (y % 8)) bv) (ck) (cp) (cv) (ek) (em))) := hD
          rw [unA_2] at hP hD
          have hP := jP_w hP
          have hD := jD_w hD
          have hP : va_P D vwCl ((wF cI cZ cQ ad (1 + ((y / 8) % 20)) (0) (0) (0) (0) (los) (wai) (set) (bad) (gon) (1 + (y % 8)) (idp (1 + (y % 8)) bp) (zrv (1 + (y % 8)) bv) (ck) (cp) (cv) (ek) (em)) ++ (wT cI q0 q1 q2 (nA (1 + (y % 8)) (1 + ((y / 8) % 20)) 0 rc rep kept) (zrv 8 dat) (rA los wai set bad gon))) H := hP
          have hD : va_D (fun q : Nat => s.heap.size ≤ q) ((wF cI cZ cQ ad (1 + ((y / 8) % 20)) (0) (0) (0) (0) (los) (wai) (set) (bad) (gon) (1 + (y % 8)) (idp (1 + (y % 8)) bp) (zrv (1 + (y % 8)) bv) (ck) (cp) (cv) (ek) (em)) ++ (wT cI q0 q1 q2 (nA (1 + (y % 8)) (1 + ((y / 8) % 20)) 0 rc rep kept) (zrv 8 dat) (rA los wai set bad gon))) := hD
          refine lv_aload_n hx hb dL_law_269 rfl (lv_at hl 2 rfl) ?_
          refine lv_iconst (v := nI (3)) hx hb dL_law_270 (by decide) ?_
          refine lv_iconst (v := nI (0)) hx hb dL_law_271 (by decide) ?_
          refine q_iast (f := (nA (1 + (y % 8)) (1 + ((y / 8) % 20)) 0 rc rep kept)) (j := 3) (y := 0) hx hb hK (jP_w hP) (jD_w hD) hS 0 0 rfl rfl (by decide) (by decide) dL_law_272 (fun H locs hP hD hS => ?_)
          have hP : va_P D vwCl ((wT cI q0 q1 q2 (un (nA (1 + (y % 8)) (1 + ((y / 8) % 20)) 0 rc rep kept) 3 0) (zrv 8 dat) (rA los wai set bad gon)) ++ (wF cI cZ cQ ad (1 + ((y / 8) % 20)) (0) (0) (0) (0) (los) (wai) (set) (bad) (gon) (1 + (y % 8)) (idp (1 + (y % 8)) bp) (zrv (1 + (y % 8)) bv) (ck) (cp) (cv) (ek) (em))) H := hP
          have hD : va_D (fun q : Nat => s.heap.size ≤ q) ((wT cI q0 q1 q2 (un (nA (1 + (y % 8)) (1 + ((y / 8) % 20)) 0 rc rep kept) 3 0) (zrv 8 dat) (rA los wai set bad gon)) ++ (wF cI cZ cQ ad (1 + ((y / 8) % 20)) (0) (0) (0) (0) (los) (wai) (set) (bad) (gon) (1 + (y % 8)) (idp (1 + (y % 8)) bp) (zrv (1 + (y % 8)) bv) (ck) (cp) (cv) (ek) (em))) := hD
          rw [unA_3] at hP hD
          have hP := jP_w hP
          have hD := jD_w hD
          have hP : va_P D vwCl ((wF cI cZ cQ ad (1 + ((y / 8) % 20)) (0) (0) (0) (0) (los) (wai) (set) (bad) (gon) (1 + (y % 8)) (idp (1 + (y % 8)) bp) (zrv (1 + (y % 8)) bv) (ck) (cp) (cv) (ek) (em)) ++ (wT cI q0 q1 q2 (nA (1 + (y % 8)) (1 + ((y / 8) % 20)) 0 0 rep kept) (zrv 8 dat) (rA los wai set bad gon))) H := hP
          have hD : va_D (fun q : Nat => s.heap.size ≤ q) ((wF cI cZ cQ ad (1 + ((y / 8) % 20)) (0) (0) (0) (0) (los) (wai) (set) (bad) (gon) (1 + (y % 8)) (idp (1 + (y % 8)) bp) (zrv (1 + (y % 8)) bv) (ck) (cp) (cv) (ek) (em)) ++ (wT cI q0 q1 q2 (nA (1 + (y % 8)) (1 + ((y / 8) % 20)) 0 0 rep kept) (zrv 8 dat) (rA los wai set bad gon))) := hD
          refine lv_aload_n hx hb dL_law_273 rfl (lv_at hl 2 rfl) ?_
          refine lv_iconst (v := nI (4)) hx hb dL_law_274 (by decide) ?_
          refine lv_iconst (v := nI (0)) hx hb dL_law_275 (by decide) ?_
          refine q_iast (f := (nA (1 + (y % 8)) (1 + ((y / 8) % 20)) 0 0 rep kept)) (j := 4) (y := 0) hx hb hK (jP_w hP) (jD_w hD) hS 0 0 rfl rfl (by decide) (by decide) dL_law_276 (fun H locs hP hD hS => ?_)
          have hP : va_P D vwCl ((wT cI q0 q1 q2 (un (nA (1 + (y % 8)) (1 + ((y / 8) % 20)) 0 0 rep kept) 4 0) (zrv 8 dat) (rA los wai set bad gon)) ++ (wF cI cZ cQ ad (1 + ((y / 8) % 20)) (0) (0) (0) (0) (los) (wai) (set) (bad) (gon) (1 + (y % 8)) (idp (1 + (y % 8)) bp) (zrv (1 + (y % 8)) bv) (ck) (cp) (cv) (ek) (em))) H := hP
          have hD : va_D (fun q : Nat => s.heap.size ≤ q) ((wT cI q0 q1 q2 (un (nA (1 + (y % 8)) (1 + ((y / 8) % 20)) 0 0 rep kept) 4 0) (zrv 8 dat) (rA los wai set bad gon)) ++ (wF cI cZ cQ ad (1 + ((y / 8) % 20)) (0) (0) (0) (0) (los) (wai) (set) (bad) (gon) (1 + (y % 8)) (idp (1 + (y % 8)) bp) (zrv (1 + (y % 8)) bv) (ck) (cp) (cv) (ek) (em))) := hD
          rw [unA_4] at hP hD
          have hP := jP_w hP
          have hD := jD_w hD
          have hP : va_P D vwCl ((wF cI cZ cQ ad (1 + ((y / 8) % 20)) (0) (0) (0) (0) (los) (wai) (set) (bad) (gon) (1 + (y % 8)) (idp (1 + (y % 8)) bp) (zrv (1 + (y % 8)) bv) (ck) (cp) (cv) (ek) (em)) ++ (wT cI q0 q1 q2 (nA (1 + (y % 8)) (1 + ((y / 8) % 20)) 0 0 0 kept) (zrv 8 dat) (rA los wai set bad gon))) H := hP
          have hD : va_D (fun q : Nat => s.heap.size ≤ q) ((wF cI cZ cQ ad (1 + ((y / 8) % 20)) (0) (0) (0) (0) (los) (wai) (set) (bad) (gon) (1 + (y % 8)) (idp (1 + (y % 8)) bp) (zrv (1 + (y % 8)) bv) (ck) (cp) (cv) (ek) (em)) ++ (wT cI q0 q1 q2 (nA (1 + (y % 8)) (1 + ((y / 8) % 20)) 0 0 0 kept) (zrv 8 dat) (rA los wai set bad gon))) := hD
          refine lv_aload_n hx hb dL_law_277 rfl (lv_at hl 2 rfl) ?_
          refine lv_iconst (v := nI (5)) hx hb dL_law_278 (by decide) ?_
          refine lv_iconst (v := nI (0)) hx hb dL_law_279 (by decide) ?_
          refine q_iast (f := (nA (1 + (y % 8)) (1 + ((y / 8) % 20)) 0 0 0 kept)) (j := 5) (y := 0) hx hb hK (jP_w hP) (jD_w hD) hS 0 0 rfl rfl (by decide) (by decide) dL_law_280 (fun H locs hP hD hS => ?_)
          have hP : va_P D vwCl ((wT cI q0 q1 q2 (un (nA (1 + (y % 8)) (1 + ((y / 8) % 20)) 0 0 0 kept) 5 0) (zrv 8 dat) (rA los wai set bad gon)) ++ (wF cI cZ cQ ad (1 + ((y / 8) % 20)) (0) (0) (0) (0) (los) (wai) (set) (bad) (gon) (1 + (y % 8)) (idp (1 + (y % 8)) bp) (zrv (1 + (y % 8)) bv) (ck) (cp) (cv) (ek) (em))) H := hP
          have hD : va_D (fun q : Nat => s.heap.size ≤ q) ((wT cI q0 q1 q2 (un (nA (1 + (y % 8)) (1 + ((y / 8) % 20)) 0 0 0 kept) 5 0) (zrv 8 dat) (rA los wai set bad gon)) ++ (wF cI cZ cQ ad (1 + ((y / 8) % 20)) (0) (0) (0) (0) (los) (wai) (set) (bad) (gon) (1 + (y % 8)) (idp (1 + (y % 8)) bp) (zrv (1 + (y % 8)) bv) (ck) (cp) (cv) (ek) (em))) := hD
          rw [unA_5] at hP hD
          have hP := jP_w hP
          have hD := jD_w hD
          have hP : va_P D vwCl ((wF cI cZ cQ ad (1 + ((y / 8) % 20)) (0) (0) (0) (0) (los) (wai) (set) (bad) (gon) (1 + (y % 8)) (idp (1 + (y % 8)) bp) (zrv (1 + (y % 8)) bv) (ck) (cp) (cv) (ek) (em)) ++ (wT cI q0 q1 q2 (nA (1 + (y % 8)) (1 + ((y / 8) % 20)) 0 0 0 0) (zrv 8 dat) (rA los wai set bad gon))) H := hP
          have hD : va_D (fun q : Nat => s.heap.size ≤ q) ((wF cI cZ cQ ad (1 + ((y / 8) % 20)) (0) (0) (0) (0) (los) (wai) (set) (bad) (gon) (1 + (y % 8)) (idp (1 + (y % 8)) bp) (zrv (1 + (y % 8)) bv) (ck) (cp) (cv) (ek) (em)) ++ (wT cI q0 q1 q2 (nA (1 + (y % 8)) (1 + ((y / 8) % 20)) 0 0 0 0) (zrv 8 dat) (rA los wai set bad gon))) := hD
          refine lv_goto (tgt := 758) hx hb dL_law_281 (by decide) ?_
          refine W.widen (k := 200 + 80 * i + 5) (n := 1000 + 500 * i + 40) (by omega) (by omega) ?_
          have hP : va_P D vwCl ((wF cI cZ cQ ad (1 + ((y / 8) % 20)) (0) (0) (0) (0) (los) (wai) (set) (bad) (gon) (1 + (y % 8)) (idp (1 + (y % 8)) bp) (zrv (1 + (y % 8)) bv) (ck) (cp) (cv) (ek) (em)) ++ (wT cI q0 q1 q2 (nA (1 + (y % 8)) (1 + ((y / 8) % 20)) 0 0 0 0) (zrv 8 dat) (rA los wai set bad gon))) H := hP
          have hD : va_D (fun q : Nat => s.heap.size ≤ q) ((wF cI cZ cQ ad (1 + ((y / 8) % 20)) (0) (0) (0) (0) (los) (wai) (set) (bad) (gon) (1 + (y % 8)) (idp (1 + (y % 8)) bp) (zrv (1 + (y % 8)) bv) (ck) (cp) (cv) (ek) (em)) ++ (wT cI q0 q1 q2 (nA (1 + (y % 8)) (1 + ((y / 8) % 20)) 0 0 0 0) (zrv 8 dat) (rA los wai set bad gon))) := hD
          exact kk (1 + ((y / 8) % 20)) 0 0 0 0 los wai set bad gon (1 + (y % 8)) (idp (1 + (y % 8)) bp) (zrv (1 + (y % 8)) bv) ck cp cv ek em (zrv 8 dat) (LJ_begin hJ ⟨by omega, by omega⟩ ⟨by omega, by omega⟩) H locs hP hD hS ls (lv_sub hl [0, 1, 2, 3, 4, 5, 6, 7] rfl)
        · skip
          refine lv_aload_n hx hb dL_law_231 rfl (lv_at hl 3 rfl) ?_
          refine lv_iload hx hb dL_law_232 (lv_at hl 8 rfl) ?_
          refine lv_iconst (v := nI (0)) hx hb dL_law_234 (by decide) ?_
          refine q_top (show nI (0) = bI (0) from rfl) ?_
          refine q_iastB (f := (zrv j dat)) (j := j) (y := 0) hx hb hK (jP_w hP) (jD_w hD) hS 1 0 rfl rfl (by omega) (by decide) dL_law_235 (fun H locs hP hD hS => ?_)
          have hP : va_P D vwCl ((wT cI q0 q1 q2 (nA bk pat sent rc rep kept) (ub (zrv j dat) j 0) (rA los wai set bad gon)) ++ (wF cI cZ cQ ad (1 + ((y / 8) % 20)) (0) (0) (0) (0) (los) (wai) (set) (bad) (gon) (1 + (y % 8)) (idp (1 + (y % 8)) bp) (zrv (1 + (y % 8)) bv) (ck) (cp) (cv) (ek) (em))) H := hP
          have hD : va_D (fun q : Nat => s.heap.size ≤ q) ((wT cI q0 q1 q2 (nA bk pat sent rc rep kept) (ub (zrv j dat) j 0) (rA los wai set bad gon)) ++ (wF cI cZ cQ ad (1 + ((y / 8) % 20)) (0) (0) (0) (0) (los) (wai) (set) (bad) (gon) (1 + (y % 8)) (idp (1 + (y % 8)) bp) (zrv (1 + (y % 8)) bv) (ck) (cp) (cv) (ek) (em))) := hD
          rw [zrv_s] at hP hD
          have hP := jP_w hP
          have hD := jD_w hD
          have hP : va_P D vwCl ((wF cI cZ cQ ad (1 + ((y / 8) % 20)) (0) (0) (0) (0) (los) (wai) (set) (bad) (gon) (1 + (y % 8)) (idp (1 + (y % 8)) bp) (zrv (1 + (y % 8)) bv) (ck) (cp) (cv) (ek) (em)) ++ (wT cI q0 q1 q2 (nA bk pat sent rc rep kept) (zrv (j + 1) dat) (rA los wai set bad gon))) H := hP
          have hD : va_D (fun q : Nat => s.heap.size ≤ q) ((wF cI cZ cQ ad (1 + ((y / 8) % 20)) (0) (0) (0) (0) (los) (wai) (set) (bad) (gon) (1 + (y % 8)) (idp (1 + (y % 8)) bp) (zrv (1 + (y % 8)) bv) (ck) (cp) (cv) (ek) (em)) ++ (wT cI q0 q1 q2 (nA bk pat sent rc rep kept) (zrv (j + 1) dat) (rA los wai set bad gon))) := hD
          refine lv_iinc (v := nI (j + 1)) (lv' := [(12, .int (nI (j + 1))), (0, .ref (b)), (1, .ref (ad 0)), (2, .ref (q0)), (3, .ref (q1)), (4, .ref (q2)), (5, .int (nI (1))), (6, .int (nI (i))), (9, .int (nI (y)))]) hx hb dL_law_236 hl (k := 8) rfl (show nI (j) + Int32.ofInt 1 = nI (j + 1) from nI_add (j) 1) (by decide) rfl (fun ls hl => ?_)
          refine lv_goto (tgt := 224) hx hb dL_law_239 (by decide) ?_
          have hP : va_P D vwCl ((wF cI cZ cQ ad (1 + ((y / 8) % 20)) (0) (0) (0) (0) (los) (wai) (set) (bad) (gon) (1 + (y % 8)) (idp (1 + (y % 8)) bp) (zrv (1 + (y % 8)) bv) (ck) (cp) (cv) (ek) (em)) ++ (wT cI q0 q1 q2 (nA bk pat sent rc rep kept) (zrv (j + 1) dat) (rA los wai set bad gon))) H := hP
          have hD : va_D (fun q : Nat => s.heap.size ≤ q) ((wF cI cZ cQ ad (1 + ((y / 8) % 20)) (0) (0) (0) (0) (los) (wai) (set) (bad) (gon) (1 + (y % 8)) (idp (1 + (y % 8)) bp) (zrv (1 + (y % 8)) bv) (ck) (cp) (cv) (ek) (em)) ++ (wT cI q0 q1 q2 (nA bk pat sent rc rep kept) (zrv (j + 1) dat) (rA los wai set bad gon))) := hD
          exact ih224_2 (j + 1) (by omega) (by omega) _ _ hP hD hS ls (lv_sub hl [1, 2, 3, 4, 5, 6, 7, 8, 0] rfl)
    have eW : ((wF cI cZ cQ ad (1 + ((y / 8) % 20)) (0) (0) (0) (0) (los) (wai) (set) (bad) (gon) (1 + (y % 8)) (idp (1 + (y % 8)) bp) (zrv (1 + (y % 8)) bv) (ck) (cp) (cv) (ek) (em)) ++ (wT cI q0 q1 q2 (nA bk pat sent rc rep kept) dat (rA los wai set bad gon))) = ((wF cI cZ cQ ad (1 + ((y / 8) % 20)) (0) (0) (0) (0) (los) (wai) (set) (bad) (gon) (1 + (y % 8)) (idp (1 + (y % 8)) bp) (zrv (1 + (y % 8)) bv) (ck) (cp) (cv) (ek) (em)) ++ (wT cI q0 q1 q2 (nA bk pat sent rc rep kept) (zrv 0 dat) (rA los wai set bad gon))) := by rw [zrv_0]
    rw [eW] at hP hD
    clear eW
    have hP : va_P D vwCl ((wF cI cZ cQ ad (1 + ((y / 8) % 20)) (0) (0) (0) (0) (los) (wai) (set) (bad) (gon) (1 + (y % 8)) (idp (1 + (y % 8)) bp) (zrv (1 + (y % 8)) bv) (ck) (cp) (cv) (ek) (em)) ++ (wT cI q0 q1 q2 (nA bk pat sent rc rep kept) (zrv 0 dat) (rA los wai set bad gon))) H := hP
    have hD : va_D (fun q : Nat => s.heap.size ≤ q) ((wF cI cZ cQ ad (1 + ((y / 8) % 20)) (0) (0) (0) (0) (los) (wai) (set) (bad) (gon) (1 + (y % 8)) (idp (1 + (y % 8)) bp) (zrv (1 + (y % 8)) bv) (ck) (cp) (cv) (ek) (em)) ++ (wT cI q0 q1 q2 (nA bk pat sent rc rep kept) (zrv 0 dat) (rA los wai set bad gon))) := hD
    refine W.widen (k := (200 + 80 * i + 1)) (n := (1000 + 500 * i + 6)) (by omega) (by omega) ?_
    exact L224_2 _ (0) (Nat.lt_succ_self _) (by omega) _ _ hP hD hS ls (lv_sub hl [2, 3, 4, 5, 6, 1, 7, 8, 0] rfl)

set_option maxHeartbeats 16000000 in
set_option maxRecDepth 100000 in
theorem law_B {p : Program} {l : Launch} {e : Env} {s : State} {m : MethodId} {below : List Frame} {meth : Method} {c : Code} {b L : Nat} {xs : Nat → Int32} {D : va_G} {cI cZ cQ cL : ClassId} {Q : State → Prop} (hfl : l.stackTraces = false) (hL : L ≤ 260) (hx : p.tables.exec = Jvm.exec) (hb : c.code = cL_law) (hml : c.maxLocals = 15) (hown : s.vm.findClass RL = some m.cls) (hts : ∀ w ∈ wsL_law, w.before #[Value.ref b] s = true) (hXs : va_X b L xs s s.heap) (hbl : b < s.heap.size) (hK : va_K D vwCl (TY cI cZ cQ cL) s) (hN : NK s) (hXK : XK s.heap.size s) {q0 q1 q2 : Nat} {ad : Nat → Nat} (i y : Nat) (hi : i < 120) (hy : y < 2 ^ 30) (kk : LN p l e s m below meth c b D cI cZ cQ Q q0 q1 q2 ad (i + 1) [(0, .ref (b)), (1, .ref (ad 0)), (2, .ref (q0)), (3, .ref (q1)), (4, .ref (q2)), (5, .int (nI (1))), (6, .int (nI (i))), (9, .int (nI (y)))] (200 + 80 * i + 5) (1000 + 500 * i + 40) 758) (pat : Nat) (sent : Nat) (rep : Nat) (kept : Nat) (rc : Nat) (los : Nat → Nat) (wai : Nat → Nat) (set : Nat → Nat) (bad : Nat → Nat) (gon : Nat → Nat) (bk : Nat) (bp : Nat → B8) (bv : Nat → B8) (ck : Nat) (cp : Nat → B8) (cv : Nat → B8) (ek : Nat) (em : Nat → Nat → B8) (dat : Nat → B8) (hJ : LJ i bk pat sent rep kept rc los wai set bad gon bp bv dat)  (H : Heap) (locs : List Loc) (hP : va_P D vwCl ((wF cI cZ cQ ad (pat) (sent) (rep) (kept) (rc) (los) (wai) (set) (bad) (gon) (bk) (bp) (bv) (ck) (cp) (cv) (ek) (em)) ++ (wT cI q0 q1 q2 (nA bk pat sent rc rep kept) dat (rA los wai set bad gon))) H) (hD : va_D (fun q : Nat => s.heap.size ≤ q) ((wF cI cZ cQ ad (pat) (sent) (rep) (kept) (rc) (los) (wai) (set) (bad) (gon) (bk) (bp) (bv) (ck) (cp) (cv) (ek) (em)) ++ (wT cI q0 q1 q2 (nA bk pat sent rc rep kept) dat (rA los wai set bad gon)))) (hS : va_S (fun q : Nat => s.heap.size ≤ q) s.heap H locs) (ls : Array Slot) (hl : lv_has ls 15 [(0, .ref (b)), (1, .ref (ad 0)), (2, .ref (q0)), (3, .ref (q1)), (4, .ref (q2)), (5, .int (nI (1))), (6, .int (nI (i))), (9, .int (nI (y)))]) : W p l e room_1 s m #[Value.ref b] below meth c H locs (200 + 80 * i) (1000 + 500 * i) Q (F0 m 290 ls []) := by
  have hA : ∀ q : Nat, s.heap.size ≤ q → (fun q : Nat => s.heap.size ≤ q) q := fun _ h => h
  obtain ⟨⟨hrc, hlos, hwai, hset, hbad, hgon, hbk, hpa, hse, hbp, hbv, hlv, hp1⟩, hbk1, hs16, hr6, hk6⟩ := id hJ
  refine lv_iload hx hb dL_law_290 (lv_at hl 7 rfl) ?_
  refine lv_aload_n hx hb dL_law_292 rfl (lv_at hl 2 rfl) ?_
  refine lv_iconst (v := nI (0)) hx hb dL_law_293 (by decide) ?_
  refine q_iald (f := (nA bk pat sent rc rep kept)) (j := 0) hx hb hK (jP_r hP) 0 0 rfl rfl (by decide) (by decide) dL_law_294 ?_
  refine q_top (show nI ((nA bk pat sent rc rep kept) 0) = nI (bk) from rfl) ?_
  refine lv_irem hx hb dL_law_295 (ni_ne0 (by omega) (by omega)) ?_
  refine q_top (show (nI (y) - nI (y) / nI (bk) * nI (bk)) = nI (y % bk) from pk_rem (by omega) (by omega) (by omega)) ?_
  have hpl := Nat.mod_lt y hbk1
  refine lv_istore (lv' := [(12, .int (nI (y % bk))), (0, .ref (b)), (1, .ref (ad 0)), (2, .ref (q0)), (3, .ref (q1)), (4, .ref (q2)), (5, .int (nI (1))), (6, .int (nI (i))), (9, .int (nI (y)))]) hx hb dL_law_296 hl (by decide) rfl (fun ls hl => ?_)
  refine lv_iload hx hb dL_law_298 (lv_at hl 8 rfl) ?_
  refine lv_bipush (v := nI (8)) hx hb dL_law_300 (by decide) ?_
  refine lv_idiv hx hb dL_law_302 (by decide) ?_
  refine q_top (show (nI (y) / nI (8)) = nI (y / 8) from pk_div (by omega) (by decide) (by decide)) ?_
  refine lv_sipush (v := nI (256)) hx hb dL_law_303 (by decide) ?_
  refine lv_irem hx hb dL_law_306 (by decide) ?_
  refine q_top (show (nI (y / 8) - nI (y / 8) / nI (256) * nI (256)) = nI ((y / 8) % 256) from pk_rem (by omega) (by decide) (by decide)) ?_
  refine lv_istore (lv' := [(13, .int (nI ((y / 8) % 256))), (12, .int (nI (y % bk))), (0, .ref (b)), (1, .ref (ad 0)), (2, .ref (q0)), (3, .ref (q1)), (4, .ref (q2)), (5, .int (nI (1))), (6, .int (nI (i))), (9, .int (nI (y)))]) hx hb dL_law_307 hl (by decide) rfl (fun ls hl => ?_)
  refine lv_aload_n hx hb dL_law_309 rfl (lv_at hl 3 rfl) ?_
  refine lv_iconst (v := nI (0)) hx hb dL_law_310 (by decide) ?_
  refine lv_iload hx hb dL_law_311 (lv_at hl 1 rfl) ?_
  refine lv_iload hx hb dL_law_313 (lv_at hl 0 rfl) ?_
  refine j_ci (wc := (wA cI cZ ad pat sent rep kept rc los wai set bad gon bk bp bv)) (pl := ((wK cI cQ ad ck cp cv ek em) ++ (wT cI q0 q1 q2 (nA bk pat sent rc rep kept) dat (rA los wai set bad gon)))) (w1 := fun u9 => u9) (vx_runSW (As := [.ref (ad 0), .int (nI (0)), .int (nI (y % bk)), .int (nI ((y / 8) % 256))]) (rest := []) ⟨hx, hb, hml, hown, hts⟩ (c_L_does0 l D cI cZ cQ cL hfl s.heap.size ad pat sent rep kept rc los wai set bad gon bk bp bv (nI (y % bk)) (nI ((y / 8) % 256)) H.size hbk hse (n_lt (by omega) (by omega)) (n_le (b := 255) (by decide) (by omega))) (vx_cwSW 4 hts gL_law_L_does rfl rfl rfl hd_L_does ⟨Nat.le_of_ble_eq_true rfl, Nat.le_of_ble_eq_true rfl⟩) (PX_s (jP_l (jF_P hP)) hK (jD_l (jF_D hD)) hN hXK hS.2.1) rfl rfl hl.1 rfl (lv_room (Nat.le_of_ble_eq_true rfl)) dL_law_315 ⟨by show _ ≤ 659595; omega, by show _ ≤ 7122396; omega⟩) (jF_P hP) (jF_D hD) hS hA (fun r_315 u_315 H locs hq_315 hP hD hS => ?_)
  have t0 : tn (nI (y % bk)) = y % bk := tn_nI (by omega)
  have t1 : tn (nI ((y / 8) % 256)) = (y / 8) % 256 := tn_nI (by omega)
  rcases hq_315 with ⟨e1, e2, e3⟩ | ⟨e1, e2, e3⟩
  · rw [t0, t1] at e3
    rw [t0, hbv _ (by omega)] at e1
    subst e3
    subst e1
    have hP := jF_P' hP
    have hD := jF_D' hD
    have hP : va_P D vwCl ((wF cI cZ cQ ad (pat) (sent) (rep) (kept) (rc) (los) (wai) (set) (bad) (gon) (bk) (bp) (ub bv (y % bk) (BitVec.ofNat 8 ((y / 8) % 256))) (ck) (cp) (cv) (ek) (em)) ++ (wT cI q0 q1 q2 (nA bk pat sent rc rep kept) dat (rA los wai set bad gon))) H := hP
    have hD : va_D (fun q : Nat => s.heap.size ≤ q) ((wF cI cZ cQ ad (pat) (sent) (rep) (kept) (rc) (los) (wai) (set) (bad) (gon) (bk) (bp) (ub bv (y % bk) (BitVec.ofNat 8 ((y / 8) % 256))) (ck) (cp) (cv) (ek) (em)) ++ (wT cI q0 q1 q2 (nA bk pat sent rc rep kept) dat (rA los wai set bad gon))) := hD
    refine lv_aload_n hx hb dL_law_318 rfl (lv_at hl 4 rfl) ?_
    refine lv_iconst (v := nI (2)) hx hb dL_law_319 (by decide) ?_
    refine q_iald (f := (nA bk pat sent rc rep kept)) (j := 2) hx hb hK (jP_r hP) 0 0 rfl rfl (by decide) (by decide) dL_law_320 ?_
    refine q_top (show nI ((nA bk pat sent rc rep kept) 2) = nI (sent) from rfl) ?_
    refine q_if_le (u := ((sent : Nat) : Int)) (tgt := 329) hx hb dL_law_321 (by decide) (nI_toInt (by omega)) (fun c_321 => ?_) (fun c_321 => absurd c_321 (by omega))
    refine lv_aload_n hx hb dL_law_329 rfl (lv_at hl 5 rfl) ?_
    refine lv_iload hx hb dL_law_330 (lv_at hl 1 rfl) ?_
    refine q_ialdB (f := dat) (j := y % bk) hx hb hK (jP_r hP) 1 0 rfl rfl (by omega) (by decide) dL_law_332 ?_
    refine q_icmp_ne (u := (((dat (y % bk)).toNat : Nat) : Int)) (v := (((dat (y % bk)).toNat : Nat) : Int)) (tgt := 340) hx hb dL_law_333 (by decide) (bI_toInt _) (bI_toInt _) (fun c_333 => absurd c_333 (fun z => z rfl)) (fun c_333 => ?_)
    refine lv_iconst (v := nI (1)) hx hb dL_law_336 (by decide) ?_
    refine lv_goto (tgt := 341) hx hb dL_law_337 (by decide) ?_
    refine lv_istore (lv' := [(5, .int (nI (1))), (13, .int (nI ((y / 8) % 256))), (12, .int (nI (y % bk))), (0, .ref (b)), (1, .ref (ad 0)), (2, .ref (q0)), (3, .ref (q1)), (4, .ref (q2)), (6, .int (nI (i))), (9, .int (nI (y)))]) hx hb dL_law_341 hl (by decide) rfl (fun ls hl => ?_)
    refine lv_aload_n hx hb dL_law_343 rfl (lv_at hl 6 rfl) ?_
    refine lv_iload hx hb dL_law_344 (lv_at hl 2 rfl) ?_
    refine lv_aload_n hx hb dL_law_346 rfl (lv_at hl 5 rfl) ?_
    refine lv_iconst (v := nI (2)) hx hb dL_law_347 (by decide) ?_
    refine q_iald (f := (nA bk pat sent rc rep kept)) (j := 2) hx hb hK (jP_r hP) 0 0 rfl rfl (by decide) (by decide) dL_law_348 ?_
    refine q_top (show nI ((nA bk pat sent rc rep kept) 2) = nI (sent) from rfl) ?_
    refine q_if_le (u := ((sent : Nat) : Int)) (tgt := 359) hx hb dL_law_349 (by decide) (nI_toInt (by omega)) (fun c_349 => ?_) (fun c_349 => absurd c_349 (by omega))
    refine lv_iload hx hb dL_law_359 (lv_at hl 1 rfl) ?_
    refine q_top (show nI ((y / 8) % 256) = bI (BitVec.ofNat 8 (y / 8 % 256)) from bI_of (by omega)) ?_
    refine q_iastB (f := dat) (j := y % bk) (y := BitVec.ofNat 8 (y / 8 % 256)) hx hb hK (jP_w hP) (jD_w hD) hS 1 0 rfl rfl (by omega) (by decide) dL_law_361 (fun H locs hP hD hS => ?_)
    have hP : va_P D vwCl ((wT cI q0 q1 q2 (nA bk pat sent rc rep kept) (ub dat (y % bk) (BitVec.ofNat 8 (y / 8 % 256))) (rA los wai set bad gon)) ++ (wF cI cZ cQ ad (pat) (sent) (rep) (kept) (rc) (los) (wai) (set) (bad) (gon) (bk) (bp) (ub bv (y % bk) (BitVec.ofNat 8 ((y / 8) % 256))) (ck) (cp) (cv) (ek) (em))) H := hP
    have hD : va_D (fun q : Nat => s.heap.size ≤ q) ((wT cI q0 q1 q2 (nA bk pat sent rc rep kept) (ub dat (y % bk) (BitVec.ofNat 8 (y / 8 % 256))) (rA los wai set bad gon)) ++ (wF cI cZ cQ ad (pat) (sent) (rep) (kept) (rc) (los) (wai) (set) (bad) (gon) (bk) (bp) (ub bv (y % bk) (BitVec.ofNat 8 ((y / 8) % 256))) (ck) (cp) (cv) (ek) (em))) := hD
    have hP := jP_w hP
    have hD := jD_w hD
    have hP : va_P D vwCl ((wF cI cZ cQ ad (pat) (sent) (rep) (kept) (rc) (los) (wai) (set) (bad) (gon) (bk) (bp) (ub bv (y % bk) (BitVec.ofNat 8 ((y / 8) % 256))) (ck) (cp) (cv) (ek) (em)) ++ (wT cI q0 q1 q2 (nA bk pat sent rc rep kept) (ub dat (y % bk) (BitVec.ofNat 8 (y / 8 % 256))) (rA los wai set bad gon))) H := hP
    have hD : va_D (fun q : Nat => s.heap.size ≤ q) ((wF cI cZ cQ ad (pat) (sent) (rep) (kept) (rc) (los) (wai) (set) (bad) (gon) (bk) (bp) (ub bv (y % bk) (BitVec.ofNat 8 ((y / 8) % 256))) (ck) (cp) (cv) (ek) (em)) ++ (wT cI q0 q1 q2 (nA bk pat sent rc rep kept) (ub dat (y % bk) (BitVec.ofNat 8 (y / 8 % 256))) (rA los wai set bad gon))) := hD
    refine lv_goto (tgt := 758) hx hb dL_law_362 (by decide) ?_
    refine W.widen (k := 200 + 80 * i + 5) (n := 1000 + 500 * i + 40) (by omega) (by omega) ?_
    have hP : va_P D vwCl ((wF cI cZ cQ ad (pat) (sent) (rep) (kept) (rc) (los) (wai) (set) (bad) (gon) (bk) (bp) (ub bv (y % bk) (BitVec.ofNat 8 ((y / 8) % 256))) (ck) (cp) (cv) (ek) (em)) ++ (wT cI q0 q1 q2 (nA bk pat sent rc rep kept) (ub dat (y % bk) (BitVec.ofNat 8 (y / 8 % 256))) (rA los wai set bad gon))) H := hP
    have hD : va_D (fun q : Nat => s.heap.size ≤ q) ((wF cI cZ cQ ad (pat) (sent) (rep) (kept) (rc) (los) (wai) (set) (bad) (gon) (bk) (bp) (ub bv (y % bk) (BitVec.ofNat 8 ((y / 8) % 256))) (ck) (cp) (cv) (ek) (em)) ++ (wT cI q0 q1 q2 (nA bk pat sent rc rep kept) (ub dat (y % bk) (BitVec.ofNat 8 (y / 8 % 256))) (rA los wai set bad gon))) := hD
    exact kk pat sent rep kept rc los wai set bad gon bk bp (ub bv (y % bk) (BitVec.ofNat 8 ((y / 8) % 256))) ck cp cv ek em (ub dat (y % bk) (BitVec.ofNat 8 (y / 8 % 256))) (LJ_setDatum hJ _ _) H locs hP hD hS ls (lv_sub hl [3, 4, 5, 6, 7, 0, 8, 9] rfl)
  · subst e3
    subst e1
    have hP := jF_P' hP
    have hD := jF_D' hD
    have hP : va_P D vwCl ((wF cI cZ cQ ad (pat) (sent) (rep) (kept) (rc) (los) (wai) (set) (bad) (gon) (bk) (bp) (bv) (ck) (cp) (cv) (ek) (em)) ++ (wT cI q0 q1 q2 (nA bk pat sent rc rep kept) dat (rA los wai set bad gon))) H := hP
    have hD : va_D (fun q : Nat => s.heap.size ≤ q) ((wF cI cZ cQ ad (pat) (sent) (rep) (kept) (rc) (los) (wai) (set) (bad) (gon) (bk) (bp) (bv) (ck) (cp) (cv) (ek) (em)) ++ (wT cI q0 q1 q2 (nA bk pat sent rc rep kept) dat (rA los wai set bad gon))) := hD
    refine lv_aload_n hx hb dL_law_318 rfl (lv_at hl 4 rfl) ?_
    refine lv_iconst (v := nI (2)) hx hb dL_law_319 (by decide) ?_
    refine q_iald (f := (nA bk pat sent rc rep kept)) (j := 2) hx hb hK (jP_r hP) 0 0 rfl rfl (by decide) (by decide) dL_law_320 ?_
    refine q_top (show nI ((nA bk pat sent rc rep kept) 2) = nI (sent) from rfl) ?_
    refine q_if_le (u := ((sent : Nat) : Int)) (tgt := 329) hx hb dL_law_321 (by decide) (nI_toInt (by omega)) (fun c_321 => absurd c_321 (by omega)) (fun c_321 => ?_)
    refine lv_bipush (v := ((-13))) hx hb dL_law_324 (by decide) ?_
    refine lv_goto (tgt := 333) hx hb dL_law_326 (by decide) ?_
    refine q_icmp_ne (u := (-13 : Int)) (v := (-13 : Int)) (tgt := 340) hx hb dL_law_333 (by decide) (by decide) (by decide) (fun c_333 => absurd c_333 (by decide)) (fun _ => ?_)
    refine lv_iconst (v := nI (1)) hx hb dL_law_336 (by decide) ?_
    refine lv_goto (tgt := 341) hx hb dL_law_337 (by decide) ?_
    refine lv_istore (lv' := [(5, .int (nI (1))), (13, .int (nI ((y / 8) % 256))), (12, .int (nI (y % bk))), (0, .ref (b)), (1, .ref (ad 0)), (2, .ref (q0)), (3, .ref (q1)), (4, .ref (q2)), (6, .int (nI (i))), (9, .int (nI (y)))]) hx hb dL_law_341 hl (by decide) rfl (fun ls hl => ?_)
    refine lv_aload_n hx hb dL_law_343 rfl (lv_at hl 6 rfl) ?_
    refine lv_iload hx hb dL_law_344 (lv_at hl 2 rfl) ?_
    refine lv_aload_n hx hb dL_law_346 rfl (lv_at hl 5 rfl) ?_
    refine lv_iconst (v := nI (2)) hx hb dL_law_347 (by decide) ?_
    refine q_iald (f := (nA bk pat sent rc rep kept)) (j := 2) hx hb hK (jP_r hP) 0 0 rfl rfl (by decide) (by decide) dL_law_348 ?_
    refine q_top (show nI ((nA bk pat sent rc rep kept) 2) = nI (sent) from rfl) ?_
    refine q_if_le (u := ((sent : Nat) : Int)) (tgt := 359) hx hb dL_law_349 (by decide) (nI_toInt (by omega)) (fun c_349 => absurd c_349 (by omega)) (fun c_349 => ?_)
    refine lv_aload_n hx hb dL_law_352 rfl (lv_at hl 6 rfl) ?_
    refine lv_iload hx hb dL_law_353 (lv_at hl 2 rfl) ?_
    refine q_ialdB (f := dat) (j := y % bk) hx hb hK (jP_r hP) 1 0 rfl rfl (by omega) (by decide) dL_law_355 ?_
    refine lv_goto (tgt := 361) hx hb dL_law_356 (by decide) ?_
    refine q_iastB (f := dat) (j := y % bk) (y := dat (y % bk)) hx hb hK (jP_w hP) (jD_w hD) hS 1 0 rfl rfl (by omega) (by decide) dL_law_361 (fun H locs hP hD hS => ?_)
    have hP : va_P D vwCl ((wT cI q0 q1 q2 (nA bk pat sent rc rep kept) (ub dat (y % bk) (dat (y % bk))) (rA los wai set bad gon)) ++ (wF cI cZ cQ ad (pat) (sent) (rep) (kept) (rc) (los) (wai) (set) (bad) (gon) (bk) (bp) (bv) (ck) (cp) (cv) (ek) (em))) H := hP
    have hD : va_D (fun q : Nat => s.heap.size ≤ q) ((wT cI q0 q1 q2 (nA bk pat sent rc rep kept) (ub dat (y % bk) (dat (y % bk))) (rA los wai set bad gon)) ++ (wF cI cZ cQ ad (pat) (sent) (rep) (kept) (rc) (los) (wai) (set) (bad) (gon) (bk) (bp) (bv) (ck) (cp) (cv) (ek) (em))) := hD
    rw [ub_eq] at hP hD
    have hP := jP_w hP
    have hD := jD_w hD
    have hP : va_P D vwCl ((wF cI cZ cQ ad (pat) (sent) (rep) (kept) (rc) (los) (wai) (set) (bad) (gon) (bk) (bp) (bv) (ck) (cp) (cv) (ek) (em)) ++ (wT cI q0 q1 q2 (nA bk pat sent rc rep kept) dat (rA los wai set bad gon))) H := hP
    have hD : va_D (fun q : Nat => s.heap.size ≤ q) ((wF cI cZ cQ ad (pat) (sent) (rep) (kept) (rc) (los) (wai) (set) (bad) (gon) (bk) (bp) (bv) (ck) (cp) (cv) (ek) (em)) ++ (wT cI q0 q1 q2 (nA bk pat sent rc rep kept) dat (rA los wai set bad gon))) := hD
    refine lv_goto (tgt := 758) hx hb dL_law_362 (by decide) ?_
    refine W.widen (k := 200 + 80 * i + 5) (n := 1000 + 500 * i + 40) (by omega) (by omega) ?_
    have hP : va_P D vwCl ((wF cI cZ cQ ad (pat) (sent) (rep) (kept) (rc) (los) (wai) (set) (bad) (gon) (bk) (bp) (bv) (ck) (cp) (cv) (ek) (em)) ++ (wT cI q0 q1 q2 (nA bk pat sent rc rep kept) dat (rA los wai set bad gon))) H := hP
    have hD : va_D (fun q : Nat => s.heap.size ≤ q) ((wF cI cZ cQ ad (pat) (sent) (rep) (kept) (rc) (los) (wai) (set) (bad) (gon) (bk) (bp) (bv) (ck) (cp) (cv) (ek) (em)) ++ (wT cI q0 q1 q2 (nA bk pat sent rc rep kept) dat (rA los wai set bad gon))) := hD
    exact kk pat sent rep kept rc los wai set bad gon bk bp bv ck cp cv ek em dat (LJ_same hJ) H locs hP hD hS ls (lv_sub hl [3, 4, 5, 6, 7, 0, 8, 9] rfl)

set_option maxHeartbeats 16000000 in
set_option maxRecDepth 100000 in
theorem law_C2 {p : Program} {l : Launch} {e : Env} {s : State} {m : MethodId} {below : List Frame} {meth : Method} {c : Code} {b L : Nat} {xs : Nat → Int32} {D : va_G} {cI cZ cQ cL : ClassId} {Q : State → Prop} (hfl : l.stackTraces = false) (hL : L ≤ 260) (hx : p.tables.exec = Jvm.exec) (hb : c.code = cL_law) (hml : c.maxLocals = 15) (hown : s.vm.findClass RL = some m.cls) (hts : ∀ w ∈ wsL_law, w.before #[Value.ref b] s = true) (hXs : va_X b L xs s s.heap) (hbl : b < s.heap.size) (hK : va_K D vwCl (TY cI cZ cQ cL) s) (hN : NK s) (hXK : XK s.heap.size s) {q0 q1 q2 : Nat} {ad : Nat → Nat} (i y : Nat) (hi : i < 120) (hy : y < 2 ^ 30) (kk : LN p l e s m below meth c b D cI cZ cQ Q q0 q1 q2 ad (i + 1) [(0, .ref (b)), (1, .ref (ad 0)), (2, .ref (q0)), (3, .ref (q1)), (4, .ref (q2)), (5, .int (nI (1))), (6, .int (nI (i))), (9, .int (nI (y)))] (200 + 80 * i + 5) (1000 + 500 * i + 40) 758) (pat : Nat) (sent : Nat) (rep : Nat) (kept : Nat) (rc : Nat) (los : Nat → Nat) (wai : Nat → Nat) (set : Nat → Nat) (bad : Nat → Nat) (gon : Nat → Nat) (bk : Nat) (bp : Nat → B8) (bv : Nat → B8) (ck : Nat) (cp : Nat → B8) (cv : Nat → B8) (ek : Nat) (em : Nat → Nat → B8) (dat : Nat → B8) (hJ : LJ i bk pat sent rep kept rc los wai set bad gon bp bv dat) (lo w : Nat) (hlo : lo ≤ 2047) (hw : w ≤ 20) (H : Heap) (locs : List Loc) (hP : va_P D vwCl ((wF cI cZ cQ ad (pat) (sent) (rep) (kept) (rc) (los) (wai) (set) (bad) (gon) (bk) (bp) (bv) (ck) (cp) (cv) (ek) (em)) ++ (wT cI q0 q1 q2 (nA bk pat sent rc rep kept) dat (rA los wai set bad gon))) H) (hD : va_D (fun q : Nat => s.heap.size ≤ q) ((wF cI cZ cQ ad (pat) (sent) (rep) (kept) (rc) (los) (wai) (set) (bad) (gon) (bk) (bp) (bv) (ck) (cp) (cv) (ek) (em)) ++ (wT cI q0 q1 q2 (nA bk pat sent rc rep kept) dat (rA los wai set bad gon)))) (hS : va_S (fun q : Nat => s.heap.size ≤ q) s.heap H locs) (ls : Array Slot) (hl : lv_has ls 15 [(0, .ref (b)), (1, .ref (ad 0)), (2, .ref (q0)), (3, .ref (q1)), (4, .ref (q2)), (5, .int (nI (1))), (6, .int (nI (i))), (9, .int (nI (y))), (11, .int (nI (lo))), (12, .int (nI (w)))]) : W p l e room_1 s m #[Value.ref b] below meth c H locs (200 + 80 * i) (1000 + 500 * i) Q (F0 m 392 ls []) := by
  have hA : ∀ q : Nat, s.heap.size ≤ q → (fun q : Nat => s.heap.size ≤ q) q := fun _ h => h
  obtain ⟨⟨hrc, hlos, hwai, hset, hbad, hgon, hbk, hpa, hse, hbp, hbv, hlv, hp1⟩, hbk1, hs16, hr6, hk6⟩ := id hJ
  refine lv_aload_n hx hb dL_law_392 rfl (lv_at hl 1 rfl) ?_
  refine lv_iconst (v := nI (1)) hx hb dL_law_393 (by decide) ?_
  refine lv_iload hx hb dL_law_394 (lv_at hl 8 rfl) ?_
  refine lv_iload hx hb dL_law_396 (lv_at hl 9 rfl) ?_
  refine j_ci (wc := (wA cI cZ ad pat sent rep kept rc los wai set bad gon bk bp bv)) (pl := ((wK cI cQ ad ck cp cv ek em) ++ (wT cI q0 q1 q2 (nA bk pat sent rc rep kept) dat (rA los wai set bad gon)))) (w1 := fun u9 => u9) (vx_runSW (As := [.ref (ad 0), .int (nI (1)), .int (nI (lo)), .int (nI (w))]) (rest := []) ⟨hx, hb, hml, hown, hts⟩ (c_L_does1 l D cI cZ cQ cL hfl s.heap.size ad pat sent rep kept rc los wai set bad gon bk bp bv (nI (lo)) (nI (w)) H.size hrc (n_le (b := 2047) (by decide) (by omega)) (n_le (b := 20) (by decide) (by omega))) (vx_cwSW 4 hts gL_law_L_does rfl rfl rfl hd_L_does ⟨Nat.le_of_ble_eq_true rfl, Nat.le_of_ble_eq_true rfl⟩) (PX_s (jP_l (jF_P hP)) hK (jD_l (jF_D hD)) hN hXK hS.2.1) rfl rfl hl.1 rfl (lv_room (Nat.le_of_ble_eq_true rfl)) dL_law_398 ⟨by show _ ≤ 659595; omega, by show _ ≤ 7122396; omega⟩) (jF_P hP) (jF_D hD) hS hA (fun r_398 u_398 H locs hq_398 hP hD hS => ?_)
  have t0 : tn (nI (lo)) = lo := tn_nI (by omega)
  have t1 : tn (nI (w)) = w := tn_nI (by omega)
  rcases hq_398 with ⟨e1, e2, e3⟩ | ⟨e1, e2, e3⟩
  · rw [t0, t1] at e3
    subst e3
    subst e1
    have hP := jF_P' hP
    have hD := jF_D' hD
    have hP : va_P D vwCl ((wF cI cZ cQ ad (pat) (sent) (rep) (kept) (rc + 1) (un los rc lo) (un wai rc w) (un set rc 0) (un bad rc 0) (un gon rc 0) (bk) (bp) (bv) (ck) (cp) (cv) (ek) (em)) ++ (wT cI q0 q1 q2 (nA bk pat sent rc rep kept) dat (rA los wai set bad gon))) H := hP
    have hD : va_D (fun q : Nat => s.heap.size ≤ q) ((wF cI cZ cQ ad (pat) (sent) (rep) (kept) (rc + 1) (un los rc lo) (un wai rc w) (un set rc 0) (un bad rc 0) (un gon rc 0) (bk) (bp) (bv) (ck) (cp) (cv) (ek) (em)) ++ (wT cI q0 q1 q2 (nA bk pat sent rc rep kept) dat (rA los wai set bad gon))) := hD
    have hrc6 := e2
    refine lv_aload_n hx hb dL_law_401 rfl (lv_at hl 2 rfl) ?_
    refine lv_iconst (v := nI (3)) hx hb dL_law_402 (by decide) ?_
    refine q_iald (f := (nA bk pat sent rc rep kept)) (j := 3) hx hb hK (jP_r hP) 0 0 rfl rfl (by decide) (by decide) dL_law_403 ?_
    refine q_top (show nI ((nA bk pat sent rc rep kept) 3) = nI (rc) from rfl) ?_
    refine lv_bipush (v := nI (6)) hx hb dL_law_404 (by decide) ?_
    refine q_icmp_ne (u := ((rc : Nat) : Int)) (v := ((6 : Nat) : Int)) (tgt := 414) hx hb dL_law_406 (by decide) (nI_toInt (by omega)) (nI_toInt (by omega)) (fun c_406 => ?_) (fun c_406 => absurd c_406 (by omega))
    refine lv_aload_n hx hb dL_law_414 rfl (lv_at hl 2 rfl) ?_
    refine lv_iconst (v := nI (3)) hx hb dL_law_415 (by decide) ?_
    refine q_iald (f := (nA bk pat sent rc rep kept)) (j := 3) hx hb hK (jP_r hP) 0 0 rfl rfl (by decide) (by decide) dL_law_416 ?_
    refine q_top (show nI ((nA bk pat sent rc rep kept) 3) = nI (rc) from rfl) ?_
    refine q_icmp_ne (u := ((rc : Nat) : Int)) (v := ((rc : Nat) : Int)) (tgt := 424) hx hb dL_law_417 (by decide) (nI_toInt (by omega)) (nI_toInt (by omega)) (fun c_417 => absurd c_417 (fun z => z rfl)) (fun c_417 => ?_)
    refine lv_iconst (v := nI (1)) hx hb dL_law_420 (by decide) ?_
    refine lv_goto (tgt := 425) hx hb dL_law_421 (by decide) ?_
    refine lv_istore (lv' := [(5, .int (nI (1))), (0, .ref (b)), (1, .ref (ad 0)), (2, .ref (q0)), (3, .ref (q1)), (4, .ref (q2)), (6, .int (nI (i))), (9, .int (nI (y))), (11, .int (nI (lo))), (12, .int (nI (w)))]) hx hb dL_law_425 hl (by decide) rfl (fun ls hl => ?_)
    refine lv_aload_n hx hb dL_law_427 rfl (lv_at hl 3 rfl) ?_
    refine lv_iconst (v := nI (3)) hx hb dL_law_428 (by decide) ?_
    refine q_iald (f := (nA bk pat sent rc rep kept)) (j := 3) hx hb hK (jP_r hP) 0 0 rfl rfl (by decide) (by decide) dL_law_429 ?_
    refine q_top (show nI ((nA bk pat sent rc rep kept) 3) = nI (rc) from rfl) ?_
    refine lv_bipush (v := nI (6)) hx hb dL_law_430 (by decide) ?_
    refine q_icmp_ge (u := ((rc : Nat) : Int)) (v := ((6 : Nat) : Int)) (tgt := 497) hx hb dL_law_432 (by decide) (nI_toInt (by omega)) (nI_toInt (by omega)) (fun c_432 => absurd c_432 (by omega)) (fun c_432 => ?_)
    refine lv_aload hx hb dL_law_435 (lv_at hl 5 rfl) ?_
    refine lv_iconst (v := nI (5)) hx hb dL_law_437 (by decide) ?_
    refine lv_aload_n hx hb dL_law_438 rfl (lv_at hl 3 rfl) ?_
    refine lv_iconst (v := nI (3)) hx hb dL_law_439 (by decide) ?_
    refine q_iald (f := (nA bk pat sent rc rep kept)) (j := 3) hx hb hK (jP_r hP) 0 0 rfl rfl (by decide) (by decide) dL_law_440 ?_
    refine q_top (show nI ((nA bk pat sent rc rep kept) 3) = nI (rc) from rfl) ?_
    refine lv_imul hx hb dL_law_441 ?_
    refine q_top (show (nI (5) * nI (rc)) = nI (5 * rc) from pk_mul _ _) ?_
    refine lv_iload hx hb dL_law_442 (lv_at hl 8 rfl) ?_
    refine q_iast (f := (rA los wai set bad gon)) (j := 5 * rc) (y := lo) hx hb hK (jP_w hP) (jD_w hD) hS 2 0 rfl rfl (by omega) (by decide) dL_law_444 (fun H locs hP hD hS => ?_)
    have hP : va_P D vwCl ((wT cI q0 q1 q2 (nA bk pat sent rc rep kept) dat (un (rA los wai set bad gon) (5 * rc) lo)) ++ (wF cI cZ cQ ad (pat) (sent) (rep) (kept) (rc + 1) (un los rc lo) (un wai rc w) (un set rc 0) (un bad rc 0) (un gon rc 0) (bk) (bp) (bv) (ck) (cp) (cv) (ek) (em))) H := hP
    have hD : va_D (fun q : Nat => s.heap.size ≤ q) ((wT cI q0 q1 q2 (nA bk pat sent rc rep kept) dat (un (rA los wai set bad gon) (5 * rc) lo)) ++ (wF cI cZ cQ ad (pat) (sent) (rep) (kept) (rc + 1) (un los rc lo) (un wai rc w) (un set rc 0) (un bad rc 0) (un gon rc 0) (bk) (bp) (bv) (ck) (cp) (cv) (ek) (em))) := hD
    rw [unR_0] at hP hD
    have hP := jP_w hP
    have hD := jD_w hD
    have hP : va_P D vwCl ((wF cI cZ cQ ad (pat) (sent) (rep) (kept) (rc + 1) (un los rc lo) (un wai rc w) (un set rc 0) (un bad rc 0) (un gon rc 0) (bk) (bp) (bv) (ck) (cp) (cv) (ek) (em)) ++ (wT cI q0 q1 q2 (nA bk pat sent rc rep kept) dat (rA (un los rc lo) wai set bad gon))) H := hP
    have hD : va_D (fun q : Nat => s.heap.size ≤ q) ((wF cI cZ cQ ad (pat) (sent) (rep) (kept) (rc + 1) (un los rc lo) (un wai rc w) (un set rc 0) (un bad rc 0) (un gon rc 0) (bk) (bp) (bv) (ck) (cp) (cv) (ek) (em)) ++ (wT cI q0 q1 q2 (nA bk pat sent rc rep kept) dat (rA (un los rc lo) wai set bad gon))) := hD
    refine lv_aload hx hb dL_law_445 (lv_at hl 5 rfl) ?_
    refine lv_iconst (v := nI (5)) hx hb dL_law_447 (by decide) ?_
    refine lv_aload_n hx hb dL_law_448 rfl (lv_at hl 3 rfl) ?_
    refine lv_iconst (v := nI (3)) hx hb dL_law_449 (by decide) ?_
    refine q_iald (f := (nA bk pat sent rc rep kept)) (j := 3) hx hb hK (jP_r hP) 0 0 rfl rfl (by decide) (by decide) dL_law_450 ?_
    refine q_top (show nI ((nA bk pat sent rc rep kept) 3) = nI (rc) from rfl) ?_
    refine lv_imul hx hb dL_law_451 ?_
    refine q_top (show (nI (5) * nI (rc)) = nI (5 * rc) from pk_mul _ _) ?_
    refine lv_iconst (v := nI (1)) hx hb dL_law_452 (by decide) ?_
    refine lv_iadd hx hb dL_law_453 ?_
    refine q_top (show (nI (5 * rc) + nI (1)) = nI ((5 * rc) + 1) from nI_add _ _) ?_
    refine lv_iload hx hb dL_law_454 (lv_at hl 9 rfl) ?_
    refine q_iast (f := (rA (un los rc lo) wai set bad gon)) (j := (5 * rc) + 1) (y := w) hx hb hK (jP_w hP) (jD_w hD) hS 2 0 rfl rfl (by omega) (by decide) dL_law_456 (fun H locs hP hD hS => ?_)
    have hP : va_P D vwCl ((wT cI q0 q1 q2 (nA bk pat sent rc rep kept) dat (un (rA (un los rc lo) wai set bad gon) ((5 * rc) + 1) w)) ++ (wF cI cZ cQ ad (pat) (sent) (rep) (kept) (rc + 1) (un los rc lo) (un wai rc w) (un set rc 0) (un bad rc 0) (un gon rc 0) (bk) (bp) (bv) (ck) (cp) (cv) (ek) (em))) H := hP
    have hD : va_D (fun q : Nat => s.heap.size ≤ q) ((wT cI q0 q1 q2 (nA bk pat sent rc rep kept) dat (un (rA (un los rc lo) wai set bad gon) ((5 * rc) + 1) w)) ++ (wF cI cZ cQ ad (pat) (sent) (rep) (kept) (rc + 1) (un los rc lo) (un wai rc w) (un set rc 0) (un bad rc 0) (un gon rc 0) (bk) (bp) (bv) (ck) (cp) (cv) (ek) (em))) := hD
    rw [unR_1] at hP hD
    have hP := jP_w hP
    have hD := jD_w hD
    have hP : va_P D vwCl ((wF cI cZ cQ ad (pat) (sent) (rep) (kept) (rc + 1) (un los rc lo) (un wai rc w) (un set rc 0) (un bad rc 0) (un gon rc 0) (bk) (bp) (bv) (ck) (cp) (cv) (ek) (em)) ++ (wT cI q0 q1 q2 (nA bk pat sent rc rep kept) dat (rA (un los rc lo) (un wai rc w) set bad gon))) H := hP
    have hD : va_D (fun q : Nat => s.heap.size ≤ q) ((wF cI cZ cQ ad (pat) (sent) (rep) (kept) (rc + 1) (un los rc lo) (un wai rc w) (un set rc 0) (un bad rc 0) (un gon rc 0) (bk) (bp) (bv) (ck) (cp) (cv) (ek) (em)) ++ (wT cI q0 q1 q2 (nA bk pat sent rc rep kept) dat (rA (un los rc lo) (un wai rc w) set bad gon))) := hD
    refine lv_aload hx hb dL_law_457 (lv_at hl 5 rfl) ?_
    refine lv_iconst (v := nI (5)) hx hb dL_law_459 (by decide) ?_
    refine lv_aload_n hx hb dL_law_460 rfl (lv_at hl 3 rfl) ?_
    refine lv_iconst (v := nI (3)) hx hb dL_law_461 (by decide) ?_
    refine q_iald (f := (nA bk pat sent rc rep kept)) (j := 3) hx hb hK (jP_r hP) 0 0 rfl rfl (by decide) (by decide) dL_law_462 ?_
    refine q_top (show nI ((nA bk pat sent rc rep kept) 3) = nI (rc) from rfl) ?_
    refine lv_imul hx hb dL_law_463 ?_
    refine q_top (show (nI (5) * nI (rc)) = nI (5 * rc) from pk_mul _ _) ?_
    refine lv_iconst (v := nI (2)) hx hb dL_law_464 (by decide) ?_
    refine lv_iadd hx hb dL_law_465 ?_
    refine q_top (show (nI (5 * rc) + nI (2)) = nI ((5 * rc) + 2) from nI_add _ _) ?_
    refine lv_iconst (v := nI (0)) hx hb dL_law_466 (by decide) ?_
    refine q_iast (f := (rA (un los rc lo) (un wai rc w) set bad gon)) (j := (5 * rc) + 2) (y := 0) hx hb hK (jP_w hP) (jD_w hD) hS 2 0 rfl rfl (by omega) (by decide) dL_law_467 (fun H locs hP hD hS => ?_)
    have hP : va_P D vwCl ((wT cI q0 q1 q2 (nA bk pat sent rc rep kept) dat (un (rA (un los rc lo) (un wai rc w) set bad gon) ((5 * rc) + 2) 0)) ++ (wF cI cZ cQ ad (pat) (sent) (rep) (kept) (rc + 1) (un los rc lo) (un wai rc w) (un set rc 0) (un bad rc 0) (un gon rc 0) (bk) (bp) (bv) (ck) (cp) (cv) (ek) (em))) H := hP
    have hD : va_D (fun q : Nat => s.heap.size ≤ q) ((wT cI q0 q1 q2 (nA bk pat sent rc rep kept) dat (un (rA (un los rc lo) (un wai rc w) set bad gon) ((5 * rc) + 2) 0)) ++ (wF cI cZ cQ ad (pat) (sent) (rep) (kept) (rc + 1) (un los rc lo) (un wai rc w) (un set rc 0) (un bad rc 0) (un gon rc 0) (bk) (bp) (bv) (ck) (cp) (cv) (ek) (em))) := hD
    rw [unR_2] at hP hD
    have hP := jP_w hP
    have hD := jD_w hD
    have hP : va_P D vwCl ((wF cI cZ cQ ad (pat) (sent) (rep) (kept) (rc + 1) (un los rc lo) (un wai rc w) (un set rc 0) (un bad rc 0) (un gon rc 0) (bk) (bp) (bv) (ck) (cp) (cv) (ek) (em)) ++ (wT cI q0 q1 q2 (nA bk pat sent rc rep kept) dat (rA (un los rc lo) (un wai rc w) (un set rc 0) bad gon))) H := hP
    have hD : va_D (fun q : Nat => s.heap.size ≤ q) ((wF cI cZ cQ ad (pat) (sent) (rep) (kept) (rc + 1) (un los rc lo) (un wai rc w) (un set rc 0) (un bad rc 0) (un gon rc 0) (bk) (bp) (bv) (ck) (cp) (cv) (ek) (em)) ++ (wT cI q0 q1 q2 (nA bk pat sent rc rep kept) dat (rA (un los rc lo) (un wai rc w) (un set rc 0) bad gon))) := hD
    refine lv_aload hx hb dL_law_468 (lv_at hl 5 rfl) ?_
    refine lv_iconst (v := nI (5)) hx hb dL_law_470 (by decide) ?_
    refine lv_aload_n hx hb dL_law_471 rfl (lv_at hl 3 rfl) ?_
    refine lv_iconst (v := nI (3)) hx hb dL_law_472 (by decide) ?_
    refine q_iald (f := (nA bk pat sent rc rep kept)) (j := 3) hx hb hK (jP_r hP) 0 0 rfl rfl (by decide) (by decide) dL_law_473 ?_
    refine q_top (show nI ((nA bk pat sent rc rep kept) 3) = nI (rc) from rfl) ?_
    refine lv_imul hx hb dL_law_474 ?_
    refine q_top (show (nI (5) * nI (rc)) = nI (5 * rc) from pk_mul _ _) ?_
    refine lv_iconst (v := nI (3)) hx hb dL_law_475 (by decide) ?_
    refine lv_iadd hx hb dL_law_476 ?_
    refine q_top (show (nI (5 * rc) + nI (3)) = nI ((5 * rc) + 3) from nI_add _ _) ?_
    refine lv_iconst (v := nI (0)) hx hb dL_law_477 (by decide) ?_
    refine q_iast (f := (rA (un los rc lo) (un wai rc w) (un set rc 0) bad gon)) (j := (5 * rc) + 3) (y := 0) hx hb hK (jP_w hP) (jD_w hD) hS 2 0 rfl rfl (by omega) (by decide) dL_law_478 (fun H locs hP hD hS => ?_)
    have hP : va_P D vwCl ((wT cI q0 q1 q2 (nA bk pat sent rc rep kept) dat (un (rA (un los rc lo) (un wai rc w) (un set rc 0) bad gon) ((5 * rc) + 3) 0)) ++ (wF cI cZ cQ ad (pat) (sent) (rep) (kept) (rc + 1) (un los rc lo) (un wai rc w) (un set rc 0) (un bad rc 0) (un gon rc 0) (bk) (bp) (bv) (ck) (cp) (cv) (ek) (em))) H := hP
    have hD : va_D (fun q : Nat => s.heap.size ≤ q) ((wT cI q0 q1 q2 (nA bk pat sent rc rep kept) dat (un (rA (un los rc lo) (un wai rc w) (un set rc 0) bad gon) ((5 * rc) + 3) 0)) ++ (wF cI cZ cQ ad (pat) (sent) (rep) (kept) (rc + 1) (un los rc lo) (un wai rc w) (un set rc 0) (un bad rc 0) (un gon rc 0) (bk) (bp) (bv) (ck) (cp) (cv) (ek) (em))) := hD
    rw [unR_3] at hP hD
    have hP := jP_w hP
    have hD := jD_w hD
    have hP : va_P D vwCl ((wF cI cZ cQ ad (pat) (sent) (rep) (kept) (rc + 1) (un los rc lo) (un wai rc w) (un set rc 0) (un bad rc 0) (un gon rc 0) (bk) (bp) (bv) (ck) (cp) (cv) (ek) (em)) ++ (wT cI q0 q1 q2 (nA bk pat sent rc rep kept) dat (rA (un los rc lo) (un wai rc w) (un set rc 0) (un bad rc 0) gon))) H := hP
    have hD : va_D (fun q : Nat => s.heap.size ≤ q) ((wF cI cZ cQ ad (pat) (sent) (rep) (kept) (rc + 1) (un los rc lo) (un wai rc w) (un set rc 0) (un bad rc 0) (un gon rc 0) (bk) (bp) (bv) (ck) (cp) (cv) (ek) (em)) ++ (wT cI q0 q1 q2 (nA bk pat sent rc rep kept) dat (rA (un los rc lo) (un wai rc w) (un set rc 0) (un bad rc 0) gon))) := hD
    refine lv_aload hx hb dL_law_479 (lv_at hl 5 rfl) ?_
    refine lv_iconst (v := nI (5)) hx hb dL_law_481 (by decide) ?_
    refine lv_aload_n hx hb dL_law_482 rfl (lv_at hl 3 rfl) ?_
    refine lv_iconst (v := nI (3)) hx hb dL_law_483 (by decide) ?_
    refine q_iald (f := (nA bk pat sent rc rep kept)) (j := 3) hx hb hK (jP_r hP) 0 0 rfl rfl (by decide) (by decide) dL_law_484 ?_
    refine q_top (show nI ((nA bk pat sent rc rep kept) 3) = nI (rc) from rfl) ?_
    refine lv_imul hx hb dL_law_485 ?_
    refine q_top (show (nI (5) * nI (rc)) = nI (5 * rc) from pk_mul _ _) ?_
    refine lv_iconst (v := nI (4)) hx hb dL_law_486 (by decide) ?_
    refine lv_iadd hx hb dL_law_487 ?_
    refine q_top (show (nI (5 * rc) + nI (4)) = nI ((5 * rc) + 4) from nI_add _ _) ?_
    refine lv_iconst (v := nI (0)) hx hb dL_law_488 (by decide) ?_
    refine q_iast (f := (rA (un los rc lo) (un wai rc w) (un set rc 0) (un bad rc 0) gon)) (j := (5 * rc) + 4) (y := 0) hx hb hK (jP_w hP) (jD_w hD) hS 2 0 rfl rfl (by omega) (by decide) dL_law_489 (fun H locs hP hD hS => ?_)
    have hP : va_P D vwCl ((wT cI q0 q1 q2 (nA bk pat sent rc rep kept) dat (un (rA (un los rc lo) (un wai rc w) (un set rc 0) (un bad rc 0) gon) ((5 * rc) + 4) 0)) ++ (wF cI cZ cQ ad (pat) (sent) (rep) (kept) (rc + 1) (un los rc lo) (un wai rc w) (un set rc 0) (un bad rc 0) (un gon rc 0) (bk) (bp) (bv) (ck) (cp) (cv) (ek) (em))) H := hP
    have hD : va_D (fun q : Nat => s.heap.size ≤ q) ((wT cI q0 q1 q2 (nA bk pat sent rc rep kept) dat (un (rA (un los rc lo) (un wai rc w) (un set rc 0) (un bad rc 0) gon) ((5 * rc) + 4) 0)) ++ (wF cI cZ cQ ad (pat) (sent) (rep) (kept) (rc + 1) (un los rc lo) (un wai rc w) (un set rc 0) (un bad rc 0) (un gon rc 0) (bk) (bp) (bv) (ck) (cp) (cv) (ek) (em))) := hD
    rw [unR_4] at hP hD
    have hP := jP_w hP
    have hD := jD_w hD
    have hP : va_P D vwCl ((wF cI cZ cQ ad (pat) (sent) (rep) (kept) (rc + 1) (un los rc lo) (un wai rc w) (un set rc 0) (un bad rc 0) (un gon rc 0) (bk) (bp) (bv) (ck) (cp) (cv) (ek) (em)) ++ (wT cI q0 q1 q2 (nA bk pat sent rc rep kept) dat (rA (un los rc lo) (un wai rc w) (un set rc 0) (un bad rc 0) (un gon rc 0)))) H := hP
    have hD : va_D (fun q : Nat => s.heap.size ≤ q) ((wF cI cZ cQ ad (pat) (sent) (rep) (kept) (rc + 1) (un los rc lo) (un wai rc w) (un set rc 0) (un bad rc 0) (un gon rc 0) (bk) (bp) (bv) (ck) (cp) (cv) (ek) (em)) ++ (wT cI q0 q1 q2 (nA bk pat sent rc rep kept) dat (rA (un los rc lo) (un wai rc w) (un set rc 0) (un bad rc 0) (un gon rc 0)))) := hD
    refine lv_aload_n hx hb dL_law_490 rfl (lv_at hl 3 rfl) ?_
    refine lv_iconst (v := nI (3)) hx hb dL_law_491 (by decide) ?_
    refine lv_dup2_11 hx hb dL_law_492 rfl rfl ?_
    refine q_iald (f := (nA bk pat sent rc rep kept)) (j := 3) hx hb hK (jP_r hP) 0 0 rfl rfl (by decide) (by decide) dL_law_493 ?_
    refine q_top (show nI ((nA bk pat sent rc rep kept) 3) = nI (rc) from rfl) ?_
    refine lv_iconst (v := nI (1)) hx hb dL_law_494 (by decide) ?_
    refine lv_iadd hx hb dL_law_495 ?_
    refine q_top (show (nI (rc) + nI (1)) = nI (rc + 1) from nI_add _ _) ?_
    refine q_iast (f := (nA bk pat sent rc rep kept)) (j := 3) (y := rc + 1) hx hb hK (jP_w hP) (jD_w hD) hS 0 0 rfl rfl (by decide) (by decide) dL_law_496 (fun H locs hP hD hS => ?_)
    have hP : va_P D vwCl ((wT cI q0 q1 q2 (un (nA bk pat sent rc rep kept) 3 (rc + 1)) dat (rA (un los rc lo) (un wai rc w) (un set rc 0) (un bad rc 0) (un gon rc 0))) ++ (wF cI cZ cQ ad (pat) (sent) (rep) (kept) (rc + 1) (un los rc lo) (un wai rc w) (un set rc 0) (un bad rc 0) (un gon rc 0) (bk) (bp) (bv) (ck) (cp) (cv) (ek) (em))) H := hP
    have hD : va_D (fun q : Nat => s.heap.size ≤ q) ((wT cI q0 q1 q2 (un (nA bk pat sent rc rep kept) 3 (rc + 1)) dat (rA (un los rc lo) (un wai rc w) (un set rc 0) (un bad rc 0) (un gon rc 0))) ++ (wF cI cZ cQ ad (pat) (sent) (rep) (kept) (rc + 1) (un los rc lo) (un wai rc w) (un set rc 0) (un bad rc 0) (un gon rc 0) (bk) (bp) (bv) (ck) (cp) (cv) (ek) (em))) := hD
    rw [unA_3] at hP hD
    have hP := jP_w hP
    have hD := jD_w hD
    have hP : va_P D vwCl ((wF cI cZ cQ ad (pat) (sent) (rep) (kept) (rc + 1) (un los rc lo) (un wai rc w) (un set rc 0) (un bad rc 0) (un gon rc 0) (bk) (bp) (bv) (ck) (cp) (cv) (ek) (em)) ++ (wT cI q0 q1 q2 (nA bk pat sent (rc + 1) rep kept) dat (rA (un los rc lo) (un wai rc w) (un set rc 0) (un bad rc 0) (un gon rc 0)))) H := hP
    have hD : va_D (fun q : Nat => s.heap.size ≤ q) ((wF cI cZ cQ ad (pat) (sent) (rep) (kept) (rc + 1) (un los rc lo) (un wai rc w) (un set rc 0) (un bad rc 0) (un gon rc 0) (bk) (bp) (bv) (ck) (cp) (cv) (ek) (em)) ++ (wT cI q0 q1 q2 (nA bk pat sent (rc + 1) rep kept) dat (rA (un los rc lo) (un wai rc w) (un set rc 0) (un bad rc 0) (un gon rc 0)))) := hD
    refine lv_goto (tgt := 758) hx hb dL_law_497 (by decide) ?_
    refine W.widen (k := 200 + 80 * i + 5) (n := 1000 + 500 * i + 40) (by omega) (by omega) ?_
    have hP : va_P D vwCl ((wF cI cZ cQ ad (pat) (sent) (rep) (kept) (rc + 1) (un los rc lo) (un wai rc w) (un set rc 0) (un bad rc 0) (un gon rc 0) (bk) (bp) (bv) (ck) (cp) (cv) (ek) (em)) ++ (wT cI q0 q1 q2 (nA bk pat sent (rc + 1) rep kept) dat (rA (un los rc lo) (un wai rc w) (un set rc 0) (un bad rc 0) (un gon rc 0)))) H := hP
    have hD : va_D (fun q : Nat => s.heap.size ≤ q) ((wF cI cZ cQ ad (pat) (sent) (rep) (kept) (rc + 1) (un los rc lo) (un wai rc w) (un set rc 0) (un bad rc 0) (un gon rc 0) (bk) (bp) (bv) (ck) (cp) (cv) (ek) (em)) ++ (wT cI q0 q1 q2 (nA bk pat sent (rc + 1) rep kept) dat (rA (un los rc lo) (un wai rc w) (un set rc 0) (un bad rc 0) (un gon rc 0)))) := hD
    exact kk pat sent rep kept (rc + 1) (un los rc lo) (un wai rc w) (un set rc 0) (un bad rc 0) (un gon rc 0) bk bp bv ck cp cv ek em dat (LJ_join hJ hlo hw hrc6) H locs hP hD hS ls (lv_sub hl [1, 2, 3, 4, 5, 0, 6, 7] rfl)
  · subst e3
    subst e1
    have hP := jF_P' hP
    have hD := jF_D' hD
    have hP : va_P D vwCl ((wF cI cZ cQ ad (pat) (sent) (rep) (kept) (rc) (los) (wai) (set) (bad) (gon) (bk) (bp) (bv) (ck) (cp) (cv) (ek) (em)) ++ (wT cI q0 q1 q2 (nA bk pat sent rc rep kept) dat (rA los wai set bad gon))) H := hP
    have hD : va_D (fun q : Nat => s.heap.size ≤ q) ((wF cI cZ cQ ad (pat) (sent) (rep) (kept) (rc) (los) (wai) (set) (bad) (gon) (bk) (bp) (bv) (ck) (cp) (cv) (ek) (em)) ++ (wT cI q0 q1 q2 (nA bk pat sent rc rep kept) dat (rA los wai set bad gon))) := hD
    have hrc6 := e2
    refine lv_aload_n hx hb dL_law_401 rfl (lv_at hl 2 rfl) ?_
    refine lv_iconst (v := nI (3)) hx hb dL_law_402 (by decide) ?_
    refine q_iald (f := (nA bk pat sent rc rep kept)) (j := 3) hx hb hK (jP_r hP) 0 0 rfl rfl (by decide) (by decide) dL_law_403 ?_
    refine q_top (show nI ((nA bk pat sent rc rep kept) 3) = nI (rc) from rfl) ?_
    refine lv_bipush (v := nI (6)) hx hb dL_law_404 (by decide) ?_
    refine q_icmp_ne (u := ((rc : Nat) : Int)) (v := ((6 : Nat) : Int)) (tgt := 414) hx hb dL_law_406 (by decide) (nI_toInt (by omega)) (nI_toInt (by omega)) (fun c_406 => absurd c_406 (by omega)) (fun c_406 => ?_)
    refine lv_bipush (v := ((-13))) hx hb dL_law_409 (by decide) ?_
    refine lv_goto (tgt := 417) hx hb dL_law_411 (by decide) ?_
    refine q_icmp_ne (u := (-13 : Int)) (v := (-13 : Int)) (tgt := 424) hx hb dL_law_417 (by decide) (by decide) (by decide) (fun c_417 => absurd c_417 (by decide)) (fun _ => ?_)
    refine lv_iconst (v := nI (1)) hx hb dL_law_420 (by decide) ?_
    refine lv_goto (tgt := 425) hx hb dL_law_421 (by decide) ?_
    refine lv_istore (lv' := [(5, .int (nI (1))), (0, .ref (b)), (1, .ref (ad 0)), (2, .ref (q0)), (3, .ref (q1)), (4, .ref (q2)), (6, .int (nI (i))), (9, .int (nI (y))), (11, .int (nI (lo))), (12, .int (nI (w)))]) hx hb dL_law_425 hl (by decide) rfl (fun ls hl => ?_)
    refine lv_aload_n hx hb dL_law_427 rfl (lv_at hl 3 rfl) ?_
    refine lv_iconst (v := nI (3)) hx hb dL_law_428 (by decide) ?_
    refine q_iald (f := (nA bk pat sent rc rep kept)) (j := 3) hx hb hK (jP_r hP) 0 0 rfl rfl (by decide) (by decide) dL_law_429 ?_
    refine q_top (show nI ((nA bk pat sent rc rep kept) 3) = nI (rc) from rfl) ?_
    refine lv_bipush (v := nI (6)) hx hb dL_law_430 (by decide) ?_
    refine q_icmp_ge (u := ((rc : Nat) : Int)) (v := ((6 : Nat) : Int)) (tgt := 497) hx hb dL_law_432 (by decide) (nI_toInt (by omega)) (nI_toInt (by omega)) (fun c_432 => ?_) (fun c_432 => absurd c_432 (by omega))
    refine lv_goto (tgt := 758) hx hb dL_law_497 (by decide) ?_
    refine W.widen (k := 200 + 80 * i + 5) (n := 1000 + 500 * i + 40) (by omega) (by omega) ?_
    have hP : va_P D vwCl ((wF cI cZ cQ ad (pat) (sent) (rep) (kept) (rc) (los) (wai) (set) (bad) (gon) (bk) (bp) (bv) (ck) (cp) (cv) (ek) (em)) ++ (wT cI q0 q1 q2 (nA bk pat sent rc rep kept) dat (rA los wai set bad gon))) H := hP
    have hD : va_D (fun q : Nat => s.heap.size ≤ q) ((wF cI cZ cQ ad (pat) (sent) (rep) (kept) (rc) (los) (wai) (set) (bad) (gon) (bk) (bp) (bv) (ck) (cp) (cv) (ek) (em)) ++ (wT cI q0 q1 q2 (nA bk pat sent rc rep kept) dat (rA los wai set bad gon))) := hD
    exact kk pat sent rep kept rc los wai set bad gon bk bp bv ck cp cv ek em dat (LJ_same hJ) H locs hP hD hS ls (lv_sub hl [1, 2, 3, 4, 5, 0, 6, 7] rfl)

set_option maxHeartbeats 16000000 in
set_option maxRecDepth 100000 in
theorem law_D {p : Program} {l : Launch} {e : Env} {s : State} {m : MethodId} {below : List Frame} {meth : Method} {c : Code} {b L : Nat} {xs : Nat → Int32} {D : va_G} {cI cZ cQ cL : ClassId} {Q : State → Prop} (hfl : l.stackTraces = false) (hL : L ≤ 260) (hx : p.tables.exec = Jvm.exec) (hb : c.code = cL_law) (hml : c.maxLocals = 15) (hown : s.vm.findClass RL = some m.cls) (hts : ∀ w ∈ wsL_law, w.before #[Value.ref b] s = true) (hXs : va_X b L xs s s.heap) (hbl : b < s.heap.size) (hK : va_K D vwCl (TY cI cZ cQ cL) s) (hN : NK s) (hXK : XK s.heap.size s) {q0 q1 q2 : Nat} {ad : Nat → Nat} (i y : Nat) (hi : i < 120) (hy : y < 2 ^ 30) (kk : LN p l e s m below meth c b D cI cZ cQ Q q0 q1 q2 ad (i + 1) [(0, .ref (b)), (1, .ref (ad 0)), (2, .ref (q0)), (3, .ref (q1)), (4, .ref (q2)), (5, .int (nI (1))), (6, .int (nI (i))), (9, .int (nI (y)))] (200 + 80 * i + 5) (1000 + 500 * i + 40) 758) (pat : Nat) (sent : Nat) (rep : Nat) (kept : Nat) (rc : Nat) (los : Nat → Nat) (wai : Nat → Nat) (set : Nat → Nat) (bad : Nat → Nat) (gon : Nat → Nat) (bk : Nat) (bp : Nat → B8) (bv : Nat → B8) (ck : Nat) (cp : Nat → B8) (cv : Nat → B8) (ek : Nat) (em : Nat → Nat → B8) (dat : Nat → B8) (hJ : LJ i bk pat sent rep kept rc los wai set bad gon bp bv dat) (rv lo : Nat) (hrv : rv < rc) (hlo : lo ≤ 2047) (H : Heap) (locs : List Loc) (hP : va_P D vwCl ((wF cI cZ cQ ad (pat) (sent) (rep) (kept) (rc) (los) (wai) (set) (bad) (gon) (bk) (bp) (bv) (ck) (cp) (cv) (ek) (em)) ++ (wT cI q0 q1 q2 (nA bk pat sent rc rep kept) dat (rA los wai set bad gon))) H) (hD : va_D (fun q : Nat => s.heap.size ≤ q) ((wF cI cZ cQ ad (pat) (sent) (rep) (kept) (rc) (los) (wai) (set) (bad) (gon) (bk) (bp) (bv) (ck) (cp) (cv) (ek) (em)) ++ (wT cI q0 q1 q2 (nA bk pat sent rc rep kept) dat (rA los wai set bad gon)))) (hS : va_S (fun q : Nat => s.heap.size ≤ q) s.heap H locs) (ls : Array Slot) (hl : lv_has ls 15 [(0, .ref (b)), (1, .ref (ad 0)), (2, .ref (q0)), (3, .ref (q1)), (4, .ref (q2)), (5, .int (nI (1))), (6, .int (nI (i))), (9, .int (nI (y))), (10, .int (nI (rv))), (11, .int (nI (lo)))]) : W p l e room_1 s m #[Value.ref b] below meth c H locs (200 + 80 * i) (1000 + 500 * i) Q (F0 m 513 ls []) := by
  have hA : ∀ q : Nat, s.heap.size ≤ q → (fun q : Nat => s.heap.size ≤ q) q := fun _ h => h
  obtain ⟨⟨hrc, hlos, hwai, hset, hbad, hgon, hbk, hpa, hse, hbp, hbv, hlv, hp1⟩, hbk1, hs16, hr6, hk6⟩ := id hJ
  refine lv_aload_n hx hb dL_law_513 rfl (lv_at hl 1 rfl) ?_
  refine lv_iload hx hb dL_law_514 (lv_at hl 8 rfl) ?_
  refine lv_iload hx hb dL_law_516 (lv_at hl 9 rfl) ?_
  have t0 : tn (nI (rv)) = rv := tn_nI (by omega)
  have t1 : tn (nI (lo)) = lo := tn_nI (by omega)
  refine j_xci (wc := (wA cI cZ ad pat sent rep kept rc los wai set bad gon bk bp bv)) (pl := ((wK cI cQ ad ck cp cv ek em) ++ (wT cI q0 q1 q2 (nA bk pat sent rc rep kept) dat (rA los wai set bad gon)))) (w1 := fun _ => (wA cI cZ ad pat sent rep kept rc (un los (tn (nI (rv))) (tn (nI (lo)))) wai set bad gon bk bp bv)) (vx_runV (As := [.int (nI (rv)), .int (nI (lo))]) (rest := []) ⟨hx, hb, hml, hown, hts⟩ (c_X3_setLosses l D cI cZ cQ cL hfl s.heap.size ad pat sent rep kept rc los wai set bad gon bk bp bv (nI (rv)) (nI (lo)) H.size hrc) (cwV 2 hts gL_law_X3_setLosses rfl rfl rfl ⟨rfl, hd_X3_setLosses⟩ ⟨Nat.le_of_ble_eq_true rfl, Nat.le_of_ble_eq_true rfl⟩) (PX_v (q := (RX3, TX3, 13)) (ci := 2) (q0 := 0) (jP_l (jF_P hP)) hK (jD_l (jF_D hD)) hN hXK hS.2.1 rfl rfl) rfl rfl hl.1 rfl (lv_room (Nat.le_of_ble_eq_true rfl)) dL_law_518 ⟨by show _ ≤ 659595; omega, by show _ ≤ 7122396; omega⟩) (jF_P hP) (jF_D hD) hS hA (fun E hE => ?_) (fun r_518 H locs hq_518 hP hD hS => ?_)
  · rcases hE with hE | hE
    · exact hE.2 (n_lt (by omega) (by omega))
    · exact hE.2.2 (n_le (b := 2047) (by decide) (by omega))
  · rw [t0, t1] at hP hD
    have hP := jF_P' hP
    have hD := jF_D' hD
    have hP : va_P D vwCl ((wF cI cZ cQ ad (pat) (sent) (rep) (kept) (rc) (un los rv lo) (wai) (set) (bad) (gon) (bk) (bp) (bv) (ck) (cp) (cv) (ek) (em)) ++ (wT cI q0 q1 q2 (nA bk pat sent rc rep kept) dat (rA los wai set bad gon))) H := hP
    have hD : va_D (fun q : Nat => s.heap.size ≤ q) ((wF cI cZ cQ ad (pat) (sent) (rep) (kept) (rc) (un los rv lo) (wai) (set) (bad) (gon) (bk) (bp) (bv) (ck) (cp) (cv) (ek) (em)) ++ (wT cI q0 q1 q2 (nA bk pat sent rc rep kept) dat (rA los wai set bad gon))) := hD
    obtain rfl : r_518 = nI (los rv) := hq_518.1.trans (by rw [t0])
    have hl9 := hlos _ (show rv < 6 by omega)
    refine lv_aload hx hb dL_law_521 (lv_at hl 4 rfl) ?_
    refine lv_iconst (v := nI (5)) hx hb dL_law_523 (by decide) ?_
    refine lv_iload hx hb dL_law_524 (lv_at hl 8 rfl) ?_
    refine lv_imul hx hb dL_law_526 ?_
    refine q_top (show (nI (5) * nI (rv)) = nI (5 * rv) from pk_mul _ _) ?_
    refine q_iald (f := (rA los wai set bad gon)) (j := 5 * rv) hx hb hK (jP_r hP) 2 0 rfl rfl (by omega) (by decide) dL_law_527 ?_
    refine q_top (show nI ((rA los wai set bad gon) (5 * rv)) = nI (los rv) from congrArg nI (rA_0 _ _ _ _ _ _)) ?_
    refine q_icmp_ne (u := ((los rv : Nat) : Int)) (v := ((los rv : Nat) : Int)) (tgt := 535) hx hb dL_law_528 (by decide) (nI_toInt (by omega)) (nI_toInt (by omega)) (fun c_528 => absurd c_528 (fun z => z rfl)) (fun c_528 => ?_)
    refine lv_iconst (v := nI (1)) hx hb dL_law_531 (by decide) ?_
    refine lv_goto (tgt := 536) hx hb dL_law_532 (by decide) ?_
    refine lv_istore (lv' := [(5, .int (nI (1))), (0, .ref (b)), (1, .ref (ad 0)), (2, .ref (q0)), (3, .ref (q1)), (4, .ref (q2)), (6, .int (nI (i))), (9, .int (nI (y))), (10, .int (nI (rv))), (11, .int (nI (lo)))]) hx hb dL_law_536 hl (by decide) rfl (fun ls hl => ?_)
    refine lv_aload hx hb dL_law_538 (lv_at hl 5 rfl) ?_
    refine lv_iconst (v := nI (5)) hx hb dL_law_540 (by decide) ?_
    refine lv_iload hx hb dL_law_541 (lv_at hl 8 rfl) ?_
    refine lv_imul hx hb dL_law_543 ?_
    refine q_top (show (nI (5) * nI (rv)) = nI (5 * rv) from pk_mul _ _) ?_
    refine lv_iload hx hb dL_law_544 (lv_at hl 9 rfl) ?_
    refine q_iast (f := (rA los wai set bad gon)) (j := 5 * rv) (y := lo) hx hb hK (jP_w hP) (jD_w hD) hS 2 0 rfl rfl (by omega) (by decide) dL_law_546 (fun H locs hP hD hS => ?_)
    have hP : va_P D vwCl ((wT cI q0 q1 q2 (nA bk pat sent rc rep kept) dat (un (rA los wai set bad gon) (5 * rv) lo)) ++ (wF cI cZ cQ ad (pat) (sent) (rep) (kept) (rc) (un los rv lo) (wai) (set) (bad) (gon) (bk) (bp) (bv) (ck) (cp) (cv) (ek) (em))) H := hP
    have hD : va_D (fun q : Nat => s.heap.size ≤ q) ((wT cI q0 q1 q2 (nA bk pat sent rc rep kept) dat (un (rA los wai set bad gon) (5 * rv) lo)) ++ (wF cI cZ cQ ad (pat) (sent) (rep) (kept) (rc) (un los rv lo) (wai) (set) (bad) (gon) (bk) (bp) (bv) (ck) (cp) (cv) (ek) (em))) := hD
    rw [unR_0] at hP hD
    have hP := jP_w hP
    have hD := jD_w hD
    have hP : va_P D vwCl ((wF cI cZ cQ ad (pat) (sent) (rep) (kept) (rc) (un los rv lo) (wai) (set) (bad) (gon) (bk) (bp) (bv) (ck) (cp) (cv) (ek) (em)) ++ (wT cI q0 q1 q2 (nA bk pat sent rc rep kept) dat (rA (un los rv lo) wai set bad gon))) H := hP
    have hD : va_D (fun q : Nat => s.heap.size ≤ q) ((wF cI cZ cQ ad (pat) (sent) (rep) (kept) (rc) (un los rv lo) (wai) (set) (bad) (gon) (bk) (bp) (bv) (ck) (cp) (cv) (ek) (em)) ++ (wT cI q0 q1 q2 (nA bk pat sent rc rep kept) dat (rA (un los rv lo) wai set bad gon))) := hD
    refine lv_goto (tgt := 758) hx hb dL_law_547 (by decide) ?_
    refine W.widen (k := 200 + 80 * i + 5) (n := 1000 + 500 * i + 40) (by omega) (by omega) ?_
    have hP : va_P D vwCl ((wF cI cZ cQ ad (pat) (sent) (rep) (kept) (rc) (un los rv lo) (wai) (set) (bad) (gon) (bk) (bp) (bv) (ck) (cp) (cv) (ek) (em)) ++ (wT cI q0 q1 q2 (nA bk pat sent rc rep kept) dat (rA (un los rv lo) wai set bad gon))) H := hP
    have hD : va_D (fun q : Nat => s.heap.size ≤ q) ((wF cI cZ cQ ad (pat) (sent) (rep) (kept) (rc) (un los rv lo) (wai) (set) (bad) (gon) (bk) (bp) (bv) (ck) (cp) (cv) (ek) (em)) ++ (wT cI q0 q1 q2 (nA bk pat sent rc rep kept) dat (rA (un los rv lo) wai set bad gon))) := hD
    exact kk pat sent rep kept rc (un los rv lo) wai set bad gon bk bp bv ck cp cv ek em dat (LJ_setLosses hJ _ hlo) H locs hP hD hS ls (lv_sub hl [1, 2, 3, 4, 5, 0, 6, 7] rfl)

set_option maxHeartbeats 16000000 in
set_option maxRecDepth 100000 in
theorem law_E2 {p : Program} {l : Launch} {e : Env} {s : State} {m : MethodId} {below : List Frame} {meth : Method} {c : Code} {b L : Nat} {xs : Nat → Int32} {D : va_G} {cI cZ cQ cL : ClassId} {Q : State → Prop} (hfl : l.stackTraces = false) (hL : L ≤ 260) (hx : p.tables.exec = Jvm.exec) (hb : c.code = cL_law) (hml : c.maxLocals = 15) (hown : s.vm.findClass RL = some m.cls) (hts : ∀ w ∈ wsL_law, w.before #[Value.ref b] s = true) (hXs : va_X b L xs s s.heap) (hbl : b < s.heap.size) (hK : va_K D vwCl (TY cI cZ cQ cL) s) (hN : NK s) (hXK : XK s.heap.size s) {q0 q1 q2 : Nat} {ad : Nat → Nat} (i y : Nat) (hi : i < 120) (hy : y < 2 ^ 30) (kk : LN p l e s m below meth c b D cI cZ cQ Q q0 q1 q2 ad (i + 1) [(0, .ref (b)), (1, .ref (ad 0)), (2, .ref (q0)), (3, .ref (q1)), (4, .ref (q2)), (5, .int (nI (1))), (6, .int (nI (i))), (9, .int (nI (y)))] (200 + 80 * i + 5) (1000 + 500 * i + 40) 758) (pat : Nat) (sent : Nat) (rep : Nat) (kept : Nat) (rc : Nat) (los : Nat → Nat) (wai : Nat → Nat) (set : Nat → Nat) (bad : Nat → Nat) (gon : Nat → Nat) (bk : Nat) (bp : Nat → B8) (bv : Nat → B8) (ck : Nat) (cp : Nat → B8) (cv : Nat → B8) (ek : Nat) (em : Nat → Nat → B8) (dat : Nat → B8) (hJ : LJ i bk pat sent rep kept rc los wai set bad gon bp bv dat) (rv w : Nat) (hrv : rv < rc) (hw : w ≤ 20) (H : Heap) (locs : List Loc) (hP : va_P D vwCl ((wF cI cZ cQ ad (pat) (sent) (rep) (kept) (rc) (los) (wai) (set) (bad) (gon) (bk) (bp) (bv) (ck) (cp) (cv) (ek) (em)) ++ (wT cI q0 q1 q2 (nA bk pat sent rc rep kept) dat (rA los wai set bad gon))) H) (hD : va_D (fun q : Nat => s.heap.size ≤ q) ((wF cI cZ cQ ad (pat) (sent) (rep) (kept) (rc) (los) (wai) (set) (bad) (gon) (bk) (bp) (bv) (ck) (cp) (cv) (ek) (em)) ++ (wT cI q0 q1 q2 (nA bk pat sent rc rep kept) dat (rA los wai set bad gon)))) (hS : va_S (fun q : Nat => s.heap.size ≤ q) s.heap H locs) (ls : Array Slot) (hl : lv_has ls 15 [(0, .ref (b)), (1, .ref (ad 0)), (2, .ref (q0)), (3, .ref (q1)), (4, .ref (q2)), (5, .int (nI (1))), (6, .int (nI (i))), (9, .int (nI (y))), (10, .int (nI (rv))), (12, .int (nI (w)))]) : W p l e room_1 s m #[Value.ref b] below meth c H locs (200 + 80 * i) (1000 + 500 * i) Q (F0 m 583 ls []) := by
  have hA : ∀ q : Nat, s.heap.size ≤ q → (fun q : Nat => s.heap.size ≤ q) q := fun _ h => h
  obtain ⟨⟨hrc, hlos, hwai, hset, hbad, hgon, hbk, hpa, hse, hbp, hbv, hlv, hp1⟩, hbk1, hs16, hr6, hk6⟩ := id hJ
  refine lv_aload_n hx hb dL_law_583 rfl (lv_at hl 1 rfl) ?_
  refine lv_iload hx hb dL_law_584 (lv_at hl 8 rfl) ?_
  refine lv_iload hx hb dL_law_586 (lv_at hl 9 rfl) ?_
  have t0 : tn (nI (rv)) = rv := tn_nI (by omega)
  have t1 : tn (nI (w)) = w := tn_nI (by omega)
  refine j_xci (wc := (wA cI cZ ad pat sent rep kept rc los wai set bad gon bk bp bv)) (pl := ((wK cI cQ ad ck cp cv ek em) ++ (wT cI q0 q1 q2 (nA bk pat sent rc rep kept) dat (rA los wai set bad gon)))) (w1 := fun _ => (wA cI cZ ad pat sent rep kept rc los (un wai (tn (nI (rv))) (tn (nI (w)))) set bad gon bk bp bv)) (vx_runV (As := [.int (nI (rv)), .int (nI (w))]) (rest := []) ⟨hx, hb, hml, hown, hts⟩ (c_X3_setWait l D cI cZ cQ cL hfl s.heap.size ad pat sent rep kept rc los wai set bad gon bk bp bv (nI (rv)) (nI (w)) H.size hrc) (cwV 2 hts gL_law_X3_setWait rfl rfl rfl ⟨rfl, hd_X3_setWait⟩ ⟨Nat.le_of_ble_eq_true rfl, Nat.le_of_ble_eq_true rfl⟩) (PX_v (q := (RX3, TX3, 13)) (ci := 2) (q0 := 0) (jP_l (jF_P hP)) hK (jD_l (jF_D hD)) hN hXK hS.2.1 rfl rfl) rfl rfl hl.1 rfl (lv_room (Nat.le_of_ble_eq_true rfl)) dL_law_588 ⟨by show _ ≤ 659595; omega, by show _ ≤ 7122396; omega⟩) (jF_P hP) (jF_D hD) hS hA (fun E hE => ?_) (fun r_588 H locs hq_588 hP hD hS => ?_)
  · rcases hE with hE | hE
    · exact hE.2 (n_lt (by omega) (by omega))
    · exact hE.2.2 (n_le (b := 20) (by decide) (by omega))
  · rw [t0, t1] at hP hD
    have hP := jF_P' hP
    have hD := jF_D' hD
    have hP : va_P D vwCl ((wF cI cZ cQ ad (pat) (sent) (rep) (kept) (rc) (los) (un wai rv w) (set) (bad) (gon) (bk) (bp) (bv) (ck) (cp) (cv) (ek) (em)) ++ (wT cI q0 q1 q2 (nA bk pat sent rc rep kept) dat (rA los wai set bad gon))) H := hP
    have hD : va_D (fun q : Nat => s.heap.size ≤ q) ((wF cI cZ cQ ad (pat) (sent) (rep) (kept) (rc) (los) (un wai rv w) (set) (bad) (gon) (bk) (bp) (bv) (ck) (cp) (cv) (ek) (em)) ++ (wT cI q0 q1 q2 (nA bk pat sent rc rep kept) dat (rA los wai set bad gon))) := hD
    obtain rfl : r_588 = nI (wai rv) := hq_588.1.trans (by rw [t0])
    have hw9 := hwai _ (show rv < 6 by omega)
    refine lv_aload hx hb dL_law_591 (lv_at hl 4 rfl) ?_
    refine lv_iconst (v := nI (5)) hx hb dL_law_593 (by decide) ?_
    refine lv_iload hx hb dL_law_594 (lv_at hl 8 rfl) ?_
    refine lv_imul hx hb dL_law_596 ?_
    refine q_top (show (nI (5) * nI (rv)) = nI (5 * rv) from pk_mul _ _) ?_
    refine lv_iconst (v := nI (1)) hx hb dL_law_597 (by decide) ?_
    refine lv_iadd hx hb dL_law_598 ?_
    refine q_top (show (nI (5 * rv) + nI (1)) = nI ((5 * rv) + 1) from nI_add _ _) ?_
    refine q_iald (f := (rA los wai set bad gon)) (j := (5 * rv) + 1) hx hb hK (jP_r hP) 2 0 rfl rfl (by omega) (by decide) dL_law_599 ?_
    refine q_top (show nI ((rA los wai set bad gon) ((5 * rv) + 1)) = nI (wai rv) from congrArg nI (rA_1 _ _ _ _ _ _)) ?_
    refine q_icmp_ne (u := ((wai rv : Nat) : Int)) (v := ((wai rv : Nat) : Int)) (tgt := 607) hx hb dL_law_600 (by decide) (nI_toInt (by omega)) (nI_toInt (by omega)) (fun c_600 => absurd c_600 (fun z => z rfl)) (fun c_600 => ?_)
    refine lv_iconst (v := nI (1)) hx hb dL_law_603 (by decide) ?_
    refine lv_goto (tgt := 608) hx hb dL_law_604 (by decide) ?_
    refine lv_istore (lv' := [(5, .int (nI (1))), (0, .ref (b)), (1, .ref (ad 0)), (2, .ref (q0)), (3, .ref (q1)), (4, .ref (q2)), (6, .int (nI (i))), (9, .int (nI (y))), (10, .int (nI (rv))), (12, .int (nI (w)))]) hx hb dL_law_608 hl (by decide) rfl (fun ls hl => ?_)
    refine lv_aload hx hb dL_law_610 (lv_at hl 5 rfl) ?_
    refine lv_iconst (v := nI (5)) hx hb dL_law_612 (by decide) ?_
    refine lv_iload hx hb dL_law_613 (lv_at hl 8 rfl) ?_
    refine lv_imul hx hb dL_law_615 ?_
    refine q_top (show (nI (5) * nI (rv)) = nI (5 * rv) from pk_mul _ _) ?_
    refine lv_iconst (v := nI (1)) hx hb dL_law_616 (by decide) ?_
    refine lv_iadd hx hb dL_law_617 ?_
    refine q_top (show (nI (5 * rv) + nI (1)) = nI ((5 * rv) + 1) from nI_add _ _) ?_
    refine lv_iload hx hb dL_law_618 (lv_at hl 9 rfl) ?_
    refine q_iast (f := (rA los wai set bad gon)) (j := (5 * rv) + 1) (y := w) hx hb hK (jP_w hP) (jD_w hD) hS 2 0 rfl rfl (by omega) (by decide) dL_law_620 (fun H locs hP hD hS => ?_)
    have hP : va_P D vwCl ((wT cI q0 q1 q2 (nA bk pat sent rc rep kept) dat (un (rA los wai set bad gon) ((5 * rv) + 1) w)) ++ (wF cI cZ cQ ad (pat) (sent) (rep) (kept) (rc) (los) (un wai rv w) (set) (bad) (gon) (bk) (bp) (bv) (ck) (cp) (cv) (ek) (em))) H := hP
    have hD : va_D (fun q : Nat => s.heap.size ≤ q) ((wT cI q0 q1 q2 (nA bk pat sent rc rep kept) dat (un (rA los wai set bad gon) ((5 * rv) + 1) w)) ++ (wF cI cZ cQ ad (pat) (sent) (rep) (kept) (rc) (los) (un wai rv w) (set) (bad) (gon) (bk) (bp) (bv) (ck) (cp) (cv) (ek) (em))) := hD
    rw [unR_1] at hP hD
    have hP := jP_w hP
    have hD := jD_w hD
    have hP : va_P D vwCl ((wF cI cZ cQ ad (pat) (sent) (rep) (kept) (rc) (los) (un wai rv w) (set) (bad) (gon) (bk) (bp) (bv) (ck) (cp) (cv) (ek) (em)) ++ (wT cI q0 q1 q2 (nA bk pat sent rc rep kept) dat (rA los (un wai rv w) set bad gon))) H := hP
    have hD : va_D (fun q : Nat => s.heap.size ≤ q) ((wF cI cZ cQ ad (pat) (sent) (rep) (kept) (rc) (los) (un wai rv w) (set) (bad) (gon) (bk) (bp) (bv) (ck) (cp) (cv) (ek) (em)) ++ (wT cI q0 q1 q2 (nA bk pat sent rc rep kept) dat (rA los (un wai rv w) set bad gon))) := hD
    refine lv_goto (tgt := 758) hx hb dL_law_621 (by decide) ?_
    refine W.widen (k := 200 + 80 * i + 5) (n := 1000 + 500 * i + 40) (by omega) (by omega) ?_
    have hP : va_P D vwCl ((wF cI cZ cQ ad (pat) (sent) (rep) (kept) (rc) (los) (un wai rv w) (set) (bad) (gon) (bk) (bp) (bv) (ck) (cp) (cv) (ek) (em)) ++ (wT cI q0 q1 q2 (nA bk pat sent rc rep kept) dat (rA los (un wai rv w) set bad gon))) H := hP
    have hD : va_D (fun q : Nat => s.heap.size ≤ q) ((wF cI cZ cQ ad (pat) (sent) (rep) (kept) (rc) (los) (un wai rv w) (set) (bad) (gon) (bk) (bp) (bv) (ck) (cp) (cv) (ek) (em)) ++ (wT cI q0 q1 q2 (nA bk pat sent rc rep kept) dat (rA los (un wai rv w) set bad gon))) := hD
    exact kk pat sent rep kept rc los (un wai rv w) set bad gon bk bp bv ck cp cv ek em dat (LJ_setWait hJ _ hw) H locs hP hD hS ls (lv_sub hl [1, 2, 3, 4, 5, 0, 6, 7] rfl)

set_option maxHeartbeats 16000000 in
set_option maxRecDepth 100000 in
theorem law_F2 {p : Program} {l : Launch} {e : Env} {s : State} {m : MethodId} {below : List Frame} {meth : Method} {c : Code} {b L : Nat} {xs : Nat → Int32} {D : va_G} {cI cZ cQ cL : ClassId} {Q : State → Prop} (hfl : l.stackTraces = false) (hL : L ≤ 260) (hx : p.tables.exec = Jvm.exec) (hb : c.code = cL_law) (hml : c.maxLocals = 15) (hown : s.vm.findClass RL = some m.cls) (hts : ∀ w ∈ wsL_law, w.before #[Value.ref b] s = true) (hXs : va_X b L xs s s.heap) (hbl : b < s.heap.size) (hK : va_K D vwCl (TY cI cZ cQ cL) s) (hN : NK s) (hXK : XK s.heap.size s) {q0 q1 q2 : Nat} {ad : Nat → Nat} (i y : Nat) (hi : i < 120) (hy : y < 2 ^ 30) (kk : LN p l e s m below meth c b D cI cZ cQ Q q0 q1 q2 ad (i + 1) [(0, .ref (b)), (1, .ref (ad 0)), (2, .ref (q0)), (3, .ref (q1)), (4, .ref (q2)), (5, .int (nI (1))), (6, .int (nI (i))), (9, .int (nI (y)))] (200 + 80 * i + 5) (1000 + 500 * i + 40) 758) (pat : Nat) (sent : Nat) (rep : Nat) (kept : Nat) (rc : Nat) (los : Nat → Nat) (wai : Nat → Nat) (set : Nat → Nat) (bad : Nat → Nat) (gon : Nat → Nat) (bk : Nat) (bp : Nat → B8) (bv : Nat → B8) (ck : Nat) (cp : Nat → B8) (cv : Nat → B8) (ek : Nat) (em : Nat → Nat → B8) (dat : Nat → B8) (hJ : LJ i bk pat sent rep kept rc los wai set bad gon bp bv dat) (mn : Nat) (hm1 : 1 ≤ mn) (hm2 : mn ≤ 16) (H : Heap) (locs : List Loc) (hP : va_P D vwCl ((wF cI cZ cQ ad (pat) (sent) (rep) (kept) (rc) (los) (wai) (set) (bad) (gon) (bk) (bp) (bv) (ck) (cp) (cv) (ek) (em)) ++ (wT cI q0 q1 q2 (nA bk pat sent rc rep kept) dat (rA los wai set bad gon))) H) (hD : va_D (fun q : Nat => s.heap.size ≤ q) ((wF cI cZ cQ ad (pat) (sent) (rep) (kept) (rc) (los) (wai) (set) (bad) (gon) (bk) (bp) (bv) (ck) (cp) (cv) (ek) (em)) ++ (wT cI q0 q1 q2 (nA bk pat sent rc rep kept) dat (rA los wai set bad gon)))) (hS : va_S (fun q : Nat => s.heap.size ≤ q) s.heap H locs) (ls : Array Slot) (hl : lv_has ls 15 [(0, .ref (b)), (1, .ref (ad 0)), (2, .ref (q0)), (3, .ref (q1)), (4, .ref (q2)), (5, .int (nI (1))), (6, .int (nI (i))), (9, .int (nI (y))), (12, .int (nI (mn)))]) : W p l e room_1 s m #[Value.ref b] below meth c H locs (200 + 80 * i) (1000 + 500 * i) Q (F0 m 651 ls []) := by
  have hA : ∀ q : Nat, s.heap.size ≤ q → (fun q : Nat => s.heap.size ≤ q) q := fun _ h => h
  obtain ⟨⟨hrc, hlos, hwai, hset, hbad, hgon, hbk, hpa, hse, hbp, hbv, hlv, hp1⟩, hbk1, hs16, hr6, hk6⟩ := id hJ
  refine lv_aload_n hx hb dL_law_651 rfl (lv_at hl 2 rfl) ?_
  refine lv_aload hx hb dL_law_652 (lv_at hl 4 rfl) ?_
  refine lv_iload hx hb dL_law_654 (lv_at hl 8 rfl) ?_
  refine j_cv (wc := (wT cI q0 q1 q2 (nA bk pat sent rc rep kept) dat (rA los wai set bad gon))) (pl := (wF cI cZ cQ ad (pat) (sent) (rep) (kept) (rc) (los) (wai) (set) (bad) (gon) (bk) (bp) (bv) (ck) (cp) (cv) (ek) (em))) (w1 := fun _ : Unit => (wT cI q0 q1 q2 (nA bk pat (sent + mn) rc rep kept) dat (rA los wai (sndM rc sent los gon set mn) bad gon))) (va_runS (As := [.ref (q0), .ref (q2), .int (nI (mn))]) (rest := []) ⟨hx, hb, hml, hown, hts⟩ (c_L_sends l D cI cZ cQ cL q0 q1 q2 bk pat sent rc rep kept dat los wai set bad gon mn H.size hrc (by omega) hlos hgon) (va_cwS 3 hts gL_law_L_sends rfl rfl rfl hd_L_sends ⟨Nat.le_of_ble_eq_true rfl, Nat.le_of_ble_eq_true rfl⟩) (PW_s (jP_r hP) hK (jD_r hD) hN) rfl rfl hl.1 rfl (lv_room (Nat.le_of_ble_eq_true rfl)) dL_law_656 ⟨by show _ ≤ 659595; omega, by show _ ≤ 7122396; omega⟩) (jP_w hP) (jD_w hD) hS hA (fun u_656 H locs hq_656 hP hD hS => ?_)
  have hP := jP_w hP
  have hD := jD_w hD
  have hP : va_P D vwCl ((wF cI cZ cQ ad (pat) (sent) (rep) (kept) (rc) (los) (wai) (set) (bad) (gon) (bk) (bp) (bv) (ck) (cp) (cv) (ek) (em)) ++ (wT cI q0 q1 q2 (nA bk pat (sent + mn) rc rep kept) dat (rA los wai (sndM rc sent los gon set mn) bad gon))) H := hP
  have hD : va_D (fun q : Nat => s.heap.size ≤ q) ((wF cI cZ cQ ad (pat) (sent) (rep) (kept) (rc) (los) (wai) (set) (bad) (gon) (bk) (bp) (bv) (ck) (cp) (cv) (ek) (em)) ++ (wT cI q0 q1 q2 (nA bk pat (sent + mn) rc rep kept) dat (rA los wai (sndM rc sent los gon set mn) bad gon))) := hD
  refine lv_iconst (v := nI (0)) hx hb dL_law_659 (by decide) ?_
  refine lv_istore (lv' := [(13, .int (nI (0))), (0, .ref (b)), (1, .ref (ad 0)), (2, .ref (q0)), (3, .ref (q1)), (4, .ref (q2)), (5, .int (nI (1))), (6, .int (nI (i))), (9, .int (nI (y))), (12, .int (nI (mn)))]) hx hb dL_law_660 hl (by decide) rfl (fun ls hl => ?_)
  refine lv_iconst (v := nI (0)) hx hb dL_law_662 (by decide) ?_
  refine lv_istore (lv' := [(14, .int (nI (0))), (13, .int (nI (0))), (0, .ref (b)), (1, .ref (ad 0)), (2, .ref (q0)), (3, .ref (q1)), (4, .ref (q2)), (5, .int (nI (1))), (6, .int (nI (i))), (9, .int (nI (y))), (12, .int (nI (mn)))]) hx hb dL_law_663 hl (by decide) rfl (fun ls hl => ?_)
  have L665_1 : ∀ (n665_1 : Nat) (j : Nat), 7 - j < n665_1 → (j ≤ rc) → ∀ (H : Heap) (locs : List Loc), va_P D vwCl ((wF cI cZ cQ ad (pat) (sent) (rep) (kept) (rc) (los) (wai) (set) (bad) (gon) (bk) (bp) (bv) (ck) (cp) (cv) (ek) (em)) ++ (wT cI q0 q1 q2 (nA bk pat (sent + mn) rc rep kept) dat (rA los wai (sndM rc sent los gon set mn) bad gon))) H → va_D (fun q : Nat => s.heap.size ≤ q) ((wF cI cZ cQ ad (pat) (sent) (rep) (kept) (rc) (los) (wai) (set) (bad) (gon) (bk) (bp) (bv) (ck) (cp) (cv) (ek) (em)) ++ (wT cI q0 q1 q2 (nA bk pat (sent + mn) rc rep kept) dat (rA los wai (sndM rc sent los gon set mn) bad gon))) → va_S (fun q : Nat => s.heap.size ≤ q) s.heap H locs → ∀ (ls : Array Slot), lv_has ls 15 [(0, .ref (b)), (1, .ref (ad 0)), (2, .ref (q0)), (3, .ref (q1)), (4, .ref (q2)), (5, .int (nI (1))), (6, .int (nI (i))), (9, .int (nI (y))), (12, .int (nI (mn))), (13, .int (nI (ccn bk (sndM rc sent los gon set mn) gon j))), (14, .int (nI (j)))] → W p l e room_1 s m #[Value.ref b] below meth c H locs (200 + 80 * i) (1000 + 500 * i) Q (F0 m 665 ls []) := by
    intro n665_1
    induction n665_1 with
    | zero =>
      intro j hn665_1
      exact absurd hn665_1 (Nat.not_lt_zero _)
    | succ n665_1 ih665_1 =>
      intro j hn665_1 hj H locs hP hD hS ls hl
      refine lv_iload hx hb dL_law_665 (lv_at hl 10 rfl) ?_
      refine lv_aload_n hx hb dL_law_667 rfl (lv_at hl 2 rfl) ?_
      refine lv_iconst (v := nI (3)) hx hb dL_law_668 (by decide) ?_
      refine q_iald (f := (nA bk pat (sent + mn) rc rep kept)) (j := 3) hx hb hK (jP_r hP) 0 0 rfl rfl (by decide) (by decide) dL_law_669 ?_
      refine q_top (show nI ((nA bk pat (sent + mn) rc rep kept) 3) = nI (rc) from rfl) ?_
      refine q_icmp_ge (u := ((j : Nat) : Int)) (v := ((rc : Nat) : Int)) (tgt := 712) hx hb dL_law_670 (by decide) (nI_toInt (by omega)) (nI_toInt (by omega)) (fun c_670 => ?_) (fun c_670 => ?_)
      · obtain rfl : rc = j := by omega
        refine lv_aload_n hx hb dL_law_712 rfl (lv_at hl 1 rfl) ?_
        refine lv_iconst (v := nI (2)) hx hb dL_law_713 (by decide) ?_
        refine lv_iload hx hb dL_law_714 (lv_at hl 8 rfl) ?_
        refine lv_iconst (v := nI (0)) hx hb dL_law_716 (by decide) ?_
        refine j_ci (wc := (wA cI cZ ad pat sent rep kept rc los wai set bad gon bk bp bv)) (pl := ((wK cI cQ ad ck cp cv ek em) ++ (wT cI q0 q1 q2 (nA bk pat (sent + mn) rc rep kept) dat (rA los wai (sndM rc sent los gon set mn) bad gon)))) (w1 := fun u9 => u9) (vx_runSW (As := [.ref (ad 0), .int (nI (2)), .int (nI (mn)), .int (nI (0))]) (rest := []) ⟨hx, hb, hml, hown, hts⟩ (c_L_does2 l D cI cZ cQ cL hfl s.heap.size ad pat sent rep kept rc los wai set bad gon bk bp bv (nI (mn)) (nI (0)) H.size hrc hlos hset hgon hbk hse (n_in (lo := 1) (hi := 16) (by decide) (by omega) (by omega)) (by rw [nI_toInt (by omega)]; omega)) (vx_cwSW 4 hts gL_law_L_does rfl rfl rfl hd_L_does ⟨Nat.le_of_ble_eq_true rfl, Nat.le_of_ble_eq_true rfl⟩) (PX_s (jP_l (jF_P hP)) hK (jD_l (jF_D hD)) hN hXK hS.2.1) rfl rfl hl.1 rfl (lv_room (Nat.le_of_ble_eq_true rfl)) dL_law_717 ⟨by show _ ≤ 659595; omega, by show _ ≤ 7122396; omega⟩) (jF_P hP) (jF_D hD) hS hA (fun r_717 u_717 H locs hq_717 hP hD hS => ?_)
        have t0 : tn (nI (mn)) = mn := tn_nI (by omega)
        obtain ⟨e1, e2, e3⟩ := hq_717
        rw [t0] at e3
        rw [t0] at e1
        subst e3
        subst e1
        have hP := jF_P' hP
        have hD := jF_D' hD
        have hP : va_P D vwCl ((wF cI cZ cQ ad (pat) (sent + mn) (rep) (kept) (rc) (los) (wai) (sndM rc sent los gon set mn) (bad) (gon) (bk) (bp) (bv) (ck) (cp) (cv) (ek) (em)) ++ (wT cI q0 q1 q2 (nA bk pat (sent + mn) rc rep kept) dat (rA los wai (sndM rc sent los gon set mn) bad gon))) H := hP
        have hD : va_D (fun q : Nat => s.heap.size ≤ q) ((wF cI cZ cQ ad (pat) (sent + mn) (rep) (kept) (rc) (los) (wai) (sndM rc sent los gon set mn) (bad) (gon) (bk) (bp) (bv) (ck) (cp) (cv) (ek) (em)) ++ (wT cI q0 q1 q2 (nA bk pat (sent + mn) rc rep kept) dat (rA los wai (sndM rc sent los gon set mn) bad gon))) := hD
        refine lv_iload hx hb dL_law_720 (lv_at hl 9 rfl) ?_
        have hcc := ccn_le bk (sndM rc sent los gon set mn) gon rc
        refine q_icmp_ne (u := ((ccn bk (sndM rc sent los gon set mn) gon rc : Nat) : Int)) (v := ((ccn bk (sndM rc sent los gon set mn) gon rc : Nat) : Int)) (tgt := 729) hx hb dL_law_722 (by decide) (nI_toInt (by omega)) (nI_toInt (by omega)) (fun c_722 => absurd c_722 (fun z => z rfl)) (fun c_722 => ?_)
        refine lv_iconst (v := nI (1)) hx hb dL_law_725 (by decide) ?_
        refine lv_goto (tgt := 730) hx hb dL_law_726 (by decide) ?_
        refine lv_istore (lv' := [(5, .int (nI (1))), (0, .ref (b)), (1, .ref (ad 0)), (2, .ref (q0)), (3, .ref (q1)), (4, .ref (q2)), (6, .int (nI (i))), (9, .int (nI (y))), (12, .int (nI (mn))), (13, .int (nI (ccn bk (sndM rc sent los gon set mn) gon rc))), (14, .int (nI (rc)))]) hx hb dL_law_730 hl (by decide) rfl (fun ls hl => ?_)
        refine lv_goto (tgt := 758) hx hb dL_law_732 (by decide) ?_
        refine W.widen (k := 200 + 80 * i + 5) (n := 1000 + 500 * i + 40) (by omega) (by omega) ?_
        have hP : va_P D vwCl ((wF cI cZ cQ ad (pat) (sent + mn) (rep) (kept) (rc) (los) (wai) (sndM rc sent los gon set mn) (bad) (gon) (bk) (bp) (bv) (ck) (cp) (cv) (ek) (em)) ++ (wT cI q0 q1 q2 (nA bk pat (sent + mn) rc rep kept) dat (rA los wai (sndM rc sent los gon set mn) bad gon))) H := hP
        have hD : va_D (fun q : Nat => s.heap.size ≤ q) ((wF cI cZ cQ ad (pat) (sent + mn) (rep) (kept) (rc) (los) (wai) (sndM rc sent los gon set mn) (bad) (gon) (bk) (bp) (bv) (ck) (cp) (cv) (ek) (em)) ++ (wT cI q0 q1 q2 (nA bk pat (sent + mn) rc rep kept) dat (rA los wai (sndM rc sent los gon set mn) bad gon))) := hD
        exact kk pat (sent + mn) rep kept rc los wai (sndM rc sent los gon set mn) bad gon bk bp bv ck cp cv ek em dat (LJ_send hJ ⟨hm1, hm2⟩ (by omega)) H locs hP hD hS ls (lv_sub hl [1, 2, 3, 4, 5, 0, 6, 7] rfl)
      · have hg9 := hgon j (by omega)
        refine lv_iload hx hb dL_law_673 (lv_at hl 9 rfl) ?_
        refine lv_aload hx hb dL_law_675 (lv_at hl 4 rfl) ?_
        refine lv_iconst (v := nI (5)) hx hb dL_law_677 (by decide) ?_
        refine lv_iload hx hb dL_law_678 (lv_at hl 10 rfl) ?_
        refine lv_imul hx hb dL_law_680 ?_
        refine q_top (show (nI (5) * nI (j)) = nI (5 * j) from pk_mul _ _) ?_
        refine lv_iconst (v := nI (4)) hx hb dL_law_681 (by decide) ?_
        refine lv_iadd hx hb dL_law_682 ?_
        refine q_top (show (nI (5 * j) + nI (4)) = nI ((5 * j) + 4) from nI_add _ _) ?_
        refine q_iald (f := (rA los wai (sndM rc sent los gon set mn) bad gon)) (j := (5 * j) + 4) hx hb hK (jP_r hP) 2 0 rfl rfl (by omega) (by decide) dL_law_683 ?_
        refine q_top (show nI ((rA los wai (sndM rc sent los gon set mn) bad gon) ((5 * j) + 4)) = nI (gon j) from congrArg nI (rA_4 _ _ _ _ _ _)) ?_
        refine q_if_ne (u := ((gon j : Nat) : Int)) (tgt := 702) hx hb dL_law_684 (by decide) (nI_toInt (by omega)) (fun c_684 => ?_) (fun c_684 => ?_)
        · have e5 : ccn bk (sndM rc sent los gon set mn) gon (j + 1) = ccn bk (sndM rc sent los gon set mn) gon j + 0 := if_neg (by omega)
          refine lv_iconst (v := nI (0)) hx hb dL_law_702 (by decide) ?_
          refine lv_iadd hx hb dL_law_703 ?_
          refine q_top (show (nI (ccn bk (sndM rc sent los gon set mn) gon j) + nI (0)) = nI (ccn bk (sndM rc sent los gon set mn) gon (j + 1)) from by rw [nI_add]; exact congrArg nI e5.symm) ?_
          refine lv_istore (lv' := [(13, .int (nI (ccn bk (sndM rc sent los gon set mn) gon (j + 1)))), (0, .ref (b)), (1, .ref (ad 0)), (2, .ref (q0)), (3, .ref (q1)), (4, .ref (q2)), (5, .int (nI (1))), (6, .int (nI (i))), (9, .int (nI (y))), (12, .int (nI (mn))), (14, .int (nI (j)))]) hx hb dL_law_704 hl (by decide) rfl (fun ls hl => ?_)
          refine lv_iinc (v := nI (j + 1)) (lv' := [(14, .int (nI (j + 1))), (13, .int (nI (ccn bk (sndM rc sent los gon set mn) gon (j + 1)))), (0, .ref (b)), (1, .ref (ad 0)), (2, .ref (q0)), (3, .ref (q1)), (4, .ref (q2)), (5, .int (nI (1))), (6, .int (nI (i))), (9, .int (nI (y))), (12, .int (nI (mn)))]) hx hb dL_law_706 hl (k := 10) rfl (show nI (j) + Int32.ofInt 1 = nI (j + 1) from nI_add (j) 1) (by decide) rfl (fun ls hl => ?_)
          refine lv_goto (tgt := 665) hx hb dL_law_709 (by decide) ?_
          have hP : va_P D vwCl ((wF cI cZ cQ ad (pat) (sent) (rep) (kept) (rc) (los) (wai) (set) (bad) (gon) (bk) (bp) (bv) (ck) (cp) (cv) (ek) (em)) ++ (wT cI q0 q1 q2 (nA bk pat (sent + mn) rc rep kept) dat (rA los wai (sndM rc sent los gon set mn) bad gon))) H := hP
          have hD : va_D (fun q : Nat => s.heap.size ≤ q) ((wF cI cZ cQ ad (pat) (sent) (rep) (kept) (rc) (los) (wai) (set) (bad) (gon) (bk) (bp) (bv) (ck) (cp) (cv) (ek) (em)) ++ (wT cI q0 q1 q2 (nA bk pat (sent + mn) rc rep kept) dat (rA los wai (sndM rc sent los gon set mn) bad gon))) := hD
          exact ih665_1 (j + 1) (by omega) (by omega) _ _ hP hD hS ls (lv_sub hl [2, 3, 4, 5, 6, 7, 8, 9, 10, 1, 0] rfl)
        · skip
          refine lv_aload_n hx hb dL_law_687 rfl (lv_at hl 2 rfl) ?_
          refine lv_aload hx hb dL_law_688 (lv_at hl 4 rfl) ?_
          refine lv_iload hx hb dL_law_690 (lv_at hl 10 rfl) ?_
          refine q_csi (va_runS (As := [.ref (q0), .ref (q2), .int (nI (j))]) (rest := [.int (nI (ccn bk (sndM rc sent los gon set mn) gon j))]) ⟨hx, hb, hml, hown, hts⟩ (c_L_need l D cI cZ cQ cL q0 q1 q2 (nA bk pat (sent + mn) rc rep kept) dat (rA los wai (sndM rc sent los gon set mn) bad gon) bk ((sndM rc sent los gon set mn) j) j H.size rfl (rA_2 _ _ _ _ _ _) hbk (sndM_lt hset _ _ (by omega)) (by omega)) (va_cwS 3 hts gL_law_L_need rfl rfl rfl hd_L_need ⟨Nat.le_of_ble_eq_true rfl, Nat.le_of_ble_eq_true rfl⟩) (PW_s (jP_r hP) hK (jD_r hD) hN) rfl rfl hl.1 rfl (lv_room (Nat.le_of_ble_eq_true rfl)) dL_law_692 ⟨by show _ ≤ 659595; omega, by show _ ≤ 7122396; omega⟩) (fun r_692 hr_692 => ?_)
          obtain rfl : r_692 = nI (bk - pc ((sndM rc sent los gon set mn) j)) := hr_692
          refine q_if_ne (u := ((bk - pc ((sndM rc sent los gon set mn) j) : Nat) : Int)) (tgt := 702) hx hb dL_law_695 (by decide) (nI_toInt (by omega)) (fun c_695 => ?_) (fun c_695 => ?_)
          · have e5 : ccn bk (sndM rc sent los gon set mn) gon (j + 1) = ccn bk (sndM rc sent los gon set mn) gon j + 0 := if_neg (by omega)
            refine lv_iconst (v := nI (0)) hx hb dL_law_702 (by decide) ?_
            refine lv_iadd hx hb dL_law_703 ?_
            refine q_top (show (nI (ccn bk (sndM rc sent los gon set mn) gon j) + nI (0)) = nI (ccn bk (sndM rc sent los gon set mn) gon (j + 1)) from by rw [nI_add]; exact congrArg nI e5.symm) ?_
            refine lv_istore (lv' := [(13, .int (nI (ccn bk (sndM rc sent los gon set mn) gon (j + 1)))), (0, .ref (b)), (1, .ref (ad 0)), (2, .ref (q0)), (3, .ref (q1)), (4, .ref (q2)), (5, .int (nI (1))), (6, .int (nI (i))), (9, .int (nI (y))), (12, .int (nI (mn))), (14, .int (nI (j)))]) hx hb dL_law_704 hl (by decide) rfl (fun ls hl => ?_)
            refine lv_iinc (v := nI (j + 1)) (lv' := [(14, .int (nI (j + 1))), (13, .int (nI (ccn bk (sndM rc sent los gon set mn) gon (j + 1)))), (0, .ref (b)), (1, .ref (ad 0)), (2, .ref (q0)), (3, .ref (q1)), (4, .ref (q2)), (5, .int (nI (1))), (6, .int (nI (i))), (9, .int (nI (y))), (12, .int (nI (mn)))]) hx hb dL_law_706 hl (k := 10) rfl (show nI (j) + Int32.ofInt 1 = nI (j + 1) from nI_add (j) 1) (by decide) rfl (fun ls hl => ?_)
            refine lv_goto (tgt := 665) hx hb dL_law_709 (by decide) ?_
            have hP : va_P D vwCl ((wF cI cZ cQ ad (pat) (sent) (rep) (kept) (rc) (los) (wai) (set) (bad) (gon) (bk) (bp) (bv) (ck) (cp) (cv) (ek) (em)) ++ (wT cI q0 q1 q2 (nA bk pat (sent + mn) rc rep kept) dat (rA los wai (sndM rc sent los gon set mn) bad gon))) H := hP
            have hD : va_D (fun q : Nat => s.heap.size ≤ q) ((wF cI cZ cQ ad (pat) (sent) (rep) (kept) (rc) (los) (wai) (set) (bad) (gon) (bk) (bp) (bv) (ck) (cp) (cv) (ek) (em)) ++ (wT cI q0 q1 q2 (nA bk pat (sent + mn) rc rep kept) dat (rA los wai (sndM rc sent los gon set mn) bad gon))) := hD
            exact ih665_1 (j + 1) (by omega) (by omega) _ _ hP hD hS ls (lv_sub hl [2, 3, 4, 5, 6, 7, 8, 9, 10, 1, 0] rfl)
          · have e5 : ccn bk (sndM rc sent los gon set mn) gon (j + 1) = ccn bk (sndM rc sent los gon set mn) gon j + 1 := if_pos ⟨by omega, by omega⟩
            refine lv_iconst (v := nI (1)) hx hb dL_law_698 (by decide) ?_
            refine lv_goto (tgt := 703) hx hb dL_law_699 (by decide) ?_
            refine lv_iadd hx hb dL_law_703 ?_
            refine q_top (show (nI (ccn bk (sndM rc sent los gon set mn) gon j) + nI (1)) = nI (ccn bk (sndM rc sent los gon set mn) gon (j + 1)) from by rw [nI_add]; exact congrArg nI e5.symm) ?_
            refine lv_istore (lv' := [(13, .int (nI (ccn bk (sndM rc sent los gon set mn) gon (j + 1)))), (0, .ref (b)), (1, .ref (ad 0)), (2, .ref (q0)), (3, .ref (q1)), (4, .ref (q2)), (5, .int (nI (1))), (6, .int (nI (i))), (9, .int (nI (y))), (12, .int (nI (mn))), (14, .int (nI (j)))]) hx hb dL_law_704 hl (by decide) rfl (fun ls hl => ?_)
            refine lv_iinc (v := nI (j + 1)) (lv' := [(14, .int (nI (j + 1))), (13, .int (nI (ccn bk (sndM rc sent los gon set mn) gon (j + 1)))), (0, .ref (b)), (1, .ref (ad 0)), (2, .ref (q0)), (3, .ref (q1)), (4, .ref (q2)), (5, .int (nI (1))), (6, .int (nI (i))), (9, .int (nI (y))), (12, .int (nI (mn)))]) hx hb dL_law_706 hl (k := 10) rfl (show nI (j) + Int32.ofInt 1 = nI (j + 1) from nI_add (j) 1) (by decide) rfl (fun ls hl => ?_)
            refine lv_goto (tgt := 665) hx hb dL_law_709 (by decide) ?_
            have hP : va_P D vwCl ((wF cI cZ cQ ad (pat) (sent) (rep) (kept) (rc) (los) (wai) (set) (bad) (gon) (bk) (bp) (bv) (ck) (cp) (cv) (ek) (em)) ++ (wT cI q0 q1 q2 (nA bk pat (sent + mn) rc rep kept) dat (rA los wai (sndM rc sent los gon set mn) bad gon))) H := hP
            have hD : va_D (fun q : Nat => s.heap.size ≤ q) ((wF cI cZ cQ ad (pat) (sent) (rep) (kept) (rc) (los) (wai) (set) (bad) (gon) (bk) (bp) (bv) (ck) (cp) (cv) (ek) (em)) ++ (wT cI q0 q1 q2 (nA bk pat (sent + mn) rc rep kept) dat (rA los wai (sndM rc sent los gon set mn) bad gon))) := hD
            exact ih665_1 (j + 1) (by omega) (by omega) _ _ hP hD hS ls (lv_sub hl [2, 3, 4, 5, 6, 7, 8, 9, 10, 1, 0] rfl)
  have hP : va_P D vwCl ((wF cI cZ cQ ad (pat) (sent) (rep) (kept) (rc) (los) (wai) (set) (bad) (gon) (bk) (bp) (bv) (ck) (cp) (cv) (ek) (em)) ++ (wT cI q0 q1 q2 (nA bk pat (sent + mn) rc rep kept) dat (rA los wai (sndM rc sent los gon set mn) bad gon))) H := hP
  have hD : va_D (fun q : Nat => s.heap.size ≤ q) ((wF cI cZ cQ ad (pat) (sent) (rep) (kept) (rc) (los) (wai) (set) (bad) (gon) (bk) (bp) (bv) (ck) (cp) (cv) (ek) (em)) ++ (wT cI q0 q1 q2 (nA bk pat (sent + mn) rc rep kept) dat (rA los wai (sndM rc sent los gon set mn) bad gon))) := hD
  refine W.widen (k := (200 + 80 * i)) (n := (1000 + 500 * i)) (by omega) (by omega) ?_
  exact L665_1 _ (0) (Nat.lt_succ_self _) (by omega) _ _ hP hD hS ls (lv_sub hl [2, 3, 4, 5, 6, 7, 8, 9, 10, 1, 0] rfl)

set_option maxHeartbeats 16000000 in
set_option maxRecDepth 100000 in
theorem law_G {p : Program} {l : Launch} {e : Env} {s : State} {m : MethodId} {below : List Frame} {meth : Method} {c : Code} {b L : Nat} {xs : Nat → Int32} {D : va_G} {cI cZ cQ cL : ClassId} {Q : State → Prop} (hfl : l.stackTraces = false) (hL : L ≤ 260) (hx : p.tables.exec = Jvm.exec) (hb : c.code = cL_law) (hml : c.maxLocals = 15) (hown : s.vm.findClass RL = some m.cls) (hts : ∀ w ∈ wsL_law, w.before #[Value.ref b] s = true) (hXs : va_X b L xs s s.heap) (hbl : b < s.heap.size) (hK : va_K D vwCl (TY cI cZ cQ cL) s) (hN : NK s) (hXK : XK s.heap.size s) {q0 q1 q2 : Nat} {ad : Nat → Nat} (i y : Nat) (hi : i < 120) (hy : y < 2 ^ 30) (kk : LN p l e s m below meth c b D cI cZ cQ Q q0 q1 q2 ad (i + 1) [(0, .ref (b)), (1, .ref (ad 0)), (2, .ref (q0)), (3, .ref (q1)), (4, .ref (q2)), (5, .int (nI (1))), (6, .int (nI (i))), (9, .int (nI (y)))] (200 + 80 * i + 5) (1000 + 500 * i + 40) 758) (pat : Nat) (sent : Nat) (rep : Nat) (kept : Nat) (rc : Nat) (los : Nat → Nat) (wai : Nat → Nat) (set : Nat → Nat) (bad : Nat → Nat) (gon : Nat → Nat) (bk : Nat) (bp : Nat → B8) (bv : Nat → B8) (ck : Nat) (cp : Nat → B8) (cv : Nat → B8) (ek : Nat) (em : Nat → Nat → B8) (dat : Nat → B8) (hJ : LJ i bk pat sent rep kept rc los wai set bad gon bp bv dat)  (H : Heap) (locs : List Loc) (hP : va_P D vwCl ((wF cI cZ cQ ad (pat) (sent) (rep) (kept) (rc) (los) (wai) (set) (bad) (gon) (bk) (bp) (bv) (ck) (cp) (cv) (ek) (em)) ++ (wT cI q0 q1 q2 (nA bk pat sent rc rep kept) dat (rA los wai set bad gon))) H) (hD : va_D (fun q : Nat => s.heap.size ≤ q) ((wF cI cZ cQ ad (pat) (sent) (rep) (kept) (rc) (los) (wai) (set) (bad) (gon) (bk) (bp) (bv) (ck) (cp) (cv) (ek) (em)) ++ (wT cI q0 q1 q2 (nA bk pat sent rc rep kept) dat (rA los wai set bad gon)))) (hS : va_S (fun q : Nat => s.heap.size ≤ q) s.heap H locs) (ls : Array Slot) (hl : lv_has ls 15 [(0, .ref (b)), (1, .ref (ad 0)), (2, .ref (q0)), (3, .ref (q1)), (4, .ref (q2)), (5, .int (nI (1))), (6, .int (nI (i))), (9, .int (nI (y)))]) : W p l e room_1 s m #[Value.ref b] below meth c H locs (200 + 80 * i) (1000 + 500 * i) Q (F0 m 735 ls []) := by
  have hA : ∀ q : Nat, s.heap.size ≤ q → (fun q : Nat => s.heap.size ≤ q) q := fun _ h => h
  obtain ⟨⟨hrc, hlos, hwai, hset, hbad, hgon, hbk, hpa, hse, hbp, hbv, hlv, hp1⟩, hbk1, hs16, hr6, hk6⟩ := id hJ
  refine lv_aload_n hx hb dL_law_735 rfl (lv_at hl 1 rfl) ?_
  refine lv_iconst (v := nI (3)) hx hb dL_law_736 (by decide) ?_
  refine lv_iconst (v := nI (0)) hx hb dL_law_737 (by decide) ?_
  refine lv_iconst (v := nI (0)) hx hb dL_law_738 (by decide) ?_
  refine j_ci (wc := (wA cI cZ ad pat sent rep kept rc los wai set bad gon bk bp bv)) (pl := ((wK cI cQ ad ck cp cv ek em) ++ (wT cI q0 q1 q2 (nA bk pat sent rc rep kept) dat (rA los wai set bad gon)))) (w1 := fun u9 => u9) (vx_runSW (As := [.ref (ad 0), .int (nI (3)), .int (nI (0)), .int (nI (0))]) (rest := []) ⟨hx, hb, hml, hown, hts⟩ (c_L_does3 l D cI cZ cQ cL hfl s.heap.size ad pat sent rep kept rc los wai set bad gon bk bp bv (nI (0)) (nI (0)) H.size hrc hlos hwai hset hbad hgon hbk hpa hse (by omega)) (vx_cwSW 4 hts gL_law_L_does rfl rfl rfl hd_L_does ⟨Nat.le_of_ble_eq_true rfl, Nat.le_of_ble_eq_true rfl⟩) (PX_s (jP_l (jF_P hP)) hK (jD_l (jF_D hD)) hN hXK hS.2.1) rfl rfl hl.1 rfl (lv_room (Nat.le_of_ble_eq_true rfl)) dL_law_739 ⟨by show _ ≤ 659595; omega, by show _ ≤ 7122396; omega⟩) (jF_P hP) (jF_D hD) hS hA (fun r_739 u_739 H locs hq_739 hP hD hS => ?_)
  obtain ⟨e1, e2, e3⟩ := hq_739
  rw [rnH_mxn (LJ_wai hJ)] at e1
  rw [rnH_mxn (LJ_wai hJ), rnR_cnt (LJ_wai hJ), rnK_cnt (LJ_wai hJ)] at e3
  subst e3
  subst e1
  have hP := jF_P' hP
  have hD := jF_D' hD
  have hP : va_P D vwCl ((wF cI cZ cQ ad (pat) (sent + mxn (ndf bk set gon) rc) (rep + cnt (pR (ndf bk set gon) wai rc) rc) (kept + cnt (pK (ndf bk set gon) wai rc) rc) (rc) (los) (wai) (sndM rc sent los gon set (mxn (ndf bk set gon) rc)) (bdB rc bk (sndM rc sent los gon set (mxn (ndf bk set gon) rc)) gon bad) (bdG rc bk pat (sndM rc sent los gon set (mxn (ndf bk set gon) rc)) gon bad) (bk) (bp) (bv) (ck) (cp) (cv) (ek) (em)) ++ (wT cI q0 q1 q2 (nA bk pat sent rc rep kept) dat (rA los wai set bad gon))) H := hP
  have hD : va_D (fun q : Nat => s.heap.size ≤ q) ((wF cI cZ cQ ad (pat) (sent + mxn (ndf bk set gon) rc) (rep + cnt (pR (ndf bk set gon) wai rc) rc) (kept + cnt (pK (ndf bk set gon) wai rc) rc) (rc) (los) (wai) (sndM rc sent los gon set (mxn (ndf bk set gon) rc)) (bdB rc bk (sndM rc sent los gon set (mxn (ndf bk set gon) rc)) gon bad) (bdG rc bk pat (sndM rc sent los gon set (mxn (ndf bk set gon) rc)) gon bad) (bk) (bp) (bv) (ck) (cp) (cv) (ek) (em)) ++ (wT cI q0 q1 q2 (nA bk pat sent rc rep kept) dat (rA los wai set bad gon))) := hD
  refine lv_aload_n hx hb dL_law_742 rfl (lv_at hl 2 rfl) ?_
  refine lv_aload hx hb dL_law_743 (lv_at hl 4 rfl) ?_
  refine j_ci (wc := (wT cI q0 q1 q2 (nA bk pat sent rc rep kept) dat (rA los wai set bad gon))) (pl := (wF cI cZ cQ ad (pat) (sent + mxn (ndf bk set gon) rc) (rep + cnt (pR (ndf bk set gon) wai rc) rc) (kept + cnt (pK (ndf bk set gon) wai rc) rc) (rc) (los) (wai) (sndM rc sent los gon set (mxn (ndf bk set gon) rc)) (bdB rc bk (sndM rc sent los gon set (mxn (ndf bk set gon) rc)) gon bad) (bdG rc bk pat (sndM rc sent los gon set (mxn (ndf bk set gon) rc)) gon bad) (bk) (bp) (bv) (ck) (cp) (cv) (ek) (em))) (w1 := fun _ : Unit => (wT cI q0 q1 q2 (nA bk pat (sent + mxn (ndf bk set gon) rc) rc (rep + cnt (pR (ndf bk set gon) wai rc) rc) (kept + cnt (pK (ndf bk set gon) wai rc) rc)) dat (rA los wai (sndM rc sent los gon set (mxn (ndf bk set gon) rc)) (bdB rc bk (sndM rc sent los gon set (mxn (ndf bk set gon) rc)) gon bad) (bdG rc bk pat (sndM rc sent los gon set (mxn (ndf bk set gon) rc)) gon bad)))) (va_runS (As := [.ref (q0), .ref (q2)]) (rest := [.int (nI (mxn (ndf bk set gon) rc))]) ⟨hx, hb, hml, hown, hts⟩ (c_L_rounds l D cI cZ cQ cL q0 q1 q2 bk pat sent rc rep kept dat los wai set bad gon H.size hrc hse hlos hwai hset hgon hbad hbk hpa (by omega) (by omega)) (va_cwS 2 hts gL_law_L_rounds rfl rfl rfl hd_L_rounds ⟨Nat.le_of_ble_eq_true rfl, Nat.le_of_ble_eq_true rfl⟩) (PW_s (jP_r hP) hK (jD_r hD) hN) rfl rfl hl.1 rfl (lv_room (Nat.le_of_ble_eq_true rfl)) dL_law_745 ⟨by show _ ≤ 659595; omega, by show _ ≤ 7122396; omega⟩) (jP_w hP) (jD_w hD) hS hA (fun r_745 u_745 H locs hq_745 hP hD hS => ?_)
  obtain rfl : r_745 = nI (mxn (ndf bk set gon) rc) := hq_745
  have hP := jP_w hP
  have hD := jD_w hD
  have hP : va_P D vwCl ((wF cI cZ cQ ad (pat) (sent + mxn (ndf bk set gon) rc) (rep + cnt (pR (ndf bk set gon) wai rc) rc) (kept + cnt (pK (ndf bk set gon) wai rc) rc) (rc) (los) (wai) (sndM rc sent los gon set (mxn (ndf bk set gon) rc)) (bdB rc bk (sndM rc sent los gon set (mxn (ndf bk set gon) rc)) gon bad) (bdG rc bk pat (sndM rc sent los gon set (mxn (ndf bk set gon) rc)) gon bad) (bk) (bp) (bv) (ck) (cp) (cv) (ek) (em)) ++ (wT cI q0 q1 q2 (nA bk pat (sent + mxn (ndf bk set gon) rc) rc (rep + cnt (pR (ndf bk set gon) wai rc) rc) (kept + cnt (pK (ndf bk set gon) wai rc) rc)) dat (rA los wai (sndM rc sent los gon set (mxn (ndf bk set gon) rc)) (bdB rc bk (sndM rc sent los gon set (mxn (ndf bk set gon) rc)) gon bad) (bdG rc bk pat (sndM rc sent los gon set (mxn (ndf bk set gon) rc)) gon bad)))) H := hP
  have hD : va_D (fun q : Nat => s.heap.size ≤ q) ((wF cI cZ cQ ad (pat) (sent + mxn (ndf bk set gon) rc) (rep + cnt (pR (ndf bk set gon) wai rc) rc) (kept + cnt (pK (ndf bk set gon) wai rc) rc) (rc) (los) (wai) (sndM rc sent los gon set (mxn (ndf bk set gon) rc)) (bdB rc bk (sndM rc sent los gon set (mxn (ndf bk set gon) rc)) gon bad) (bdG rc bk pat (sndM rc sent los gon set (mxn (ndf bk set gon) rc)) gon bad) (bk) (bp) (bv) (ck) (cp) (cv) (ek) (em)) ++ (wT cI q0 q1 q2 (nA bk pat (sent + mxn (ndf bk set gon) rc) rc (rep + cnt (pR (ndf bk set gon) wai rc) rc) (kept + cnt (pK (ndf bk set gon) wai rc) rc)) dat (rA los wai (sndM rc sent los gon set (mxn (ndf bk set gon) rc)) (bdB rc bk (sndM rc sent los gon set (mxn (ndf bk set gon) rc)) gon bad) (bdG rc bk pat (sndM rc sent los gon set (mxn (ndf bk set gon) rc)) gon bad)))) := hD
  have hm9 := mxn_le (nd := ndf bk set gon) (nd8_le hbk) rc
  refine q_icmp_ne (u := ((mxn (ndf bk set gon) rc : Nat) : Int)) (v := ((mxn (ndf bk set gon) rc : Nat) : Int)) (tgt := 755) hx hb dL_law_748 (by decide) (nI_toInt (by omega)) (nI_toInt (by omega)) (fun c_748 => absurd c_748 (fun z => z rfl)) (fun c_748 => ?_)
  refine lv_iconst (v := nI (1)) hx hb dL_law_751 (by decide) ?_
  refine lv_goto (tgt := 756) hx hb dL_law_752 (by decide) ?_
  refine lv_istore (lv' := [(5, .int (nI (1))), (0, .ref (b)), (1, .ref (ad 0)), (2, .ref (q0)), (3, .ref (q1)), (4, .ref (q2)), (6, .int (nI (i))), (9, .int (nI (y)))]) hx hb dL_law_756 hl (by decide) rfl (fun ls hl => ?_)
  refine W.widen (k := 200 + 80 * i + 5) (n := 1000 + 500 * i + 40) (by omega) (by omega) ?_
  have hP : va_P D vwCl ((wF cI cZ cQ ad (pat) (sent + mxn (ndf bk set gon) rc) (rep + cnt (pR (ndf bk set gon) wai rc) rc) (kept + cnt (pK (ndf bk set gon) wai rc) rc) (rc) (los) (wai) (sndM rc sent los gon set (mxn (ndf bk set gon) rc)) (bdB rc bk (sndM rc sent los gon set (mxn (ndf bk set gon) rc)) gon bad) (bdG rc bk pat (sndM rc sent los gon set (mxn (ndf bk set gon) rc)) gon bad) (bk) (bp) (bv) (ck) (cp) (cv) (ek) (em)) ++ (wT cI q0 q1 q2 (nA bk pat (sent + mxn (ndf bk set gon) rc) rc (rep + cnt (pR (ndf bk set gon) wai rc) rc) (kept + cnt (pK (ndf bk set gon) wai rc) rc)) dat (rA los wai (sndM rc sent los gon set (mxn (ndf bk set gon) rc)) (bdB rc bk (sndM rc sent los gon set (mxn (ndf bk set gon) rc)) gon bad) (bdG rc bk pat (sndM rc sent los gon set (mxn (ndf bk set gon) rc)) gon bad)))) H := hP
  have hD : va_D (fun q : Nat => s.heap.size ≤ q) ((wF cI cZ cQ ad (pat) (sent + mxn (ndf bk set gon) rc) (rep + cnt (pR (ndf bk set gon) wai rc) rc) (kept + cnt (pK (ndf bk set gon) wai rc) rc) (rc) (los) (wai) (sndM rc sent los gon set (mxn (ndf bk set gon) rc)) (bdB rc bk (sndM rc sent los gon set (mxn (ndf bk set gon) rc)) gon bad) (bdG rc bk pat (sndM rc sent los gon set (mxn (ndf bk set gon) rc)) gon bad) (bk) (bp) (bv) (ck) (cp) (cv) (ek) (em)) ++ (wT cI q0 q1 q2 (nA bk pat (sent + mxn (ndf bk set gon) rc) rc (rep + cnt (pR (ndf bk set gon) wai rc) rc) (kept + cnt (pK (ndf bk set gon) wai rc) rc)) dat (rA los wai (sndM rc sent los gon set (mxn (ndf bk set gon) rc)) (bdB rc bk (sndM rc sent los gon set (mxn (ndf bk set gon) rc)) gon bad) (bdG rc bk pat (sndM rc sent los gon set (mxn (ndf bk set gon) rc)) gon bad)))) := hD
  exact kk pat (sent + mxn (ndf bk set gon) rc) (rep + cnt (pR (ndf bk set gon) wai rc) rc) (kept + cnt (pK (ndf bk set gon) wai rc) rc) rc los wai (sndM rc sent los gon set (mxn (ndf bk set gon) rc)) (bdB rc bk (sndM rc sent los gon set (mxn (ndf bk set gon) rc)) gon bad) (bdG rc bk pat (sndM rc sent los gon set (mxn (ndf bk set gon) rc)) gon bad) bk bp bv ck cp cv ek em dat (LJ_round hJ (by omega)) H locs hP hD hS ls (lv_sub hl [1, 2, 3, 4, 5, 0, 6, 7] rfl)
