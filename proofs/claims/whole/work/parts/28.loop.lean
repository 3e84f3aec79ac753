theorem len3 {L : Nat} (h : L ≤ 1536) : (nI L - nI 3).toInt = (L : Int) - 3 := by
  rw [Int32.toInt_sub, nI_toInt (by omega), nI_toInt (by decide)]
  simp only [Int.bmod]
  split <;> omega
set_option maxHeartbeats 8000000 in
set_option maxRecDepth 100000 in
/-- the law's loop, from its head -/
theorem law_loop {p : Program} {l : Launch} {e : Env} {s : State} {m : MethodId} {below : List Frame} {meth : Method} {c : Code} {b L : Nat} {xs : Nat → Int32} {D : va_G} {cI cZ cQ cL : ClassId} {Q : State → Prop} (hfl : l.stackTraces = false) (hL : L ≤ 1536) (hx : p.tables.exec = Jvm.exec) (hb : c.code = cL_law) (hml : c.maxLocals = 7) (hown : s.vm.findClass RL = some m.cls) (hts : ∀ w ∈ wsL_law, w.before #[Value.ref b] s = true) (hXs : va_X b L xs s s.heap) (hbl : b < s.heap.size) (hK : va_K D vwCl (TY cI cZ cQ cL) s) (hN : NK s) (hXK : XK s.heap.size s) {q : Nat} {ad am : Nat → Nat} (kend : ∀ (H : Heap) (locs : List Loc) (ls : Array Slot) (cells slots : Nat), (∀ q ∈ locs, s.heap.size ≤ q.base) → cells ≤ 601024 → slots ≤ 7293034 → W p l e room_1 s m #[Value.ref b] below meth c H locs cells slots Q (F0 m 1117 ls [])) : ∀ (n i : Nat), L < i + n → i ≤ L → LNX p l e s m below meth c b D cI cZ cQ cL Q q ad am i (100 + i) (1000 + 6 * i) 23 := by
  have hbA : ¬ (fun q : Nat => s.heap.size ≤ q) b := Nat.not_le.mpr hbl
  intro n
  induction n with
  | zero =>
    intro i h1 h2
    exact absurd h1 (by omega)
  | succ n ih =>
    intro i h1 h2 f pat sent rep kept rc los wai set bad gon bk bp bv ck cp cv ek em dat thr na hI H locs hP hD hS ls hl
    refine lv_iload hx hb dL_law_23 (lv_at hl 4 rfl) ?_
    refine lv_aload_n hx hb dL_law_25 rfl (lv_at hl 0 rfl) ?_
    refine va_slen hx hb hXs hbl hbA hS dL_law_26 ?_
    refine q_top (show Int32.ofNat L = nI L from rfl) ?_
    refine lv_iconst (v := nI (3)) hx hb dL_law_27 (by decide) ?_
    refine lv_isub hx hb dL_law_28 ?_
    refine q_icmp_gt (u := (i : Int)) (v := (L : Int) - 3) (tgt := 1117) hx hb dL_law_29 (by decide) (nI_toInt (by omega)) (len3 hL) (fun c9 => ?_) (fun c9 => ?_)
    · exact kend H locs ls _ _ hS.2.2 (by omega) (by omega)
    · have hi : i + 3 ≤ L := by omega
      have hnx : LNX p l e s m below meth c b D cI cZ cQ cL Q q ad am i (100 + (i + 3)) (1000 + 6 * (i + 3)) 1111 := by
        intro f pat sent rep kept rc los wai set bad gon bk bp bv ck cp cv ek em dat thr na hI H locs hP hD hS ls hl
        refine lv_iinc (v := nI (i + 3)) (lv' := [(4, .int (nI (i + 3))), (0, .ref b), (1, .ref (ad 0)), (2, .ref (am 0)), (3, .ref q)]) hx hb dL_law_1111 hl (k := 4) rfl (show nI i + Int32.ofInt 3 = nI (i + 3) from nI_add i 3) (by decide) rfl (fun ls hl => ?_)
        refine lv_goto (tgt := 23) hx hb dL_law_1114 (by decide) ?_
        exact ih (i + 3) (by omega) hi f pat sent rep kept rc los wai set bad gon bk bp bv ck cp cv ek em dat thr na hI H locs hP hD hS ls (lv_sub hl [1, 2, 3, 4, 0] rfl)
      refine lv_aload_n hx hb dL_law_32 rfl (lv_at hl 0 rfl) ?_
      refine lv_iload hx hb dL_law_33 (lv_at hl 4 rfl) ?_
      refine va_sld hx hb hXs hbl hbA hS (vp_in_nI (by omega) (by omega)) dL_law_35 ?_
      generalize xs (nI i).toNatClampNeg = x
      refine lv_bipush (v := nI (31)) hx hb dL_law_36 (by decide) ?_
      refine lv_iand hx hb dL_law_38 ?_
      obtain ⟨v, hv, ev⟩ := and31 x
      refine q_top ev ?_
      by_cases h19 : v < 19
      · rcases (show v = 0 ∨ v = 1 ∨ v = 2 ∨ v = 3 ∨ v = 4 ∨ v = 5 ∨ v = 6 ∨ v = 7 ∨ v = 8 ∨ v = 9 ∨ v = 10 ∨ v = 11 ∨ v = 12 ∨ v = 13 ∨ v = 14 ∨ v = 15 ∨ v = 16 ∨ v = 17 ∨ v = 18 by omega) with rfl | rfl | rfl | rfl | rfl | rfl | rfl | rfl | rfl | rfl | rfl | rfl | rfl | rfl | rfl | rfl | rfl | rfl | rfl
        · refine lv_tableIn (off := 89) (tgt := 128) hx hb dL_law_39 (by decide) (by decide) (by decide) (by decide) ?_
          exact law_c0 hfl hL hx hb hml hown hts hXs hbl hK hN hXK i hi hnx f pat sent rep kept rc los wai set bad gon bk bp bv ck cp cv ek em dat thr na hI H locs hP hD hS ls hl
        · refine lv_tableIn (off := 157) (tgt := 196) hx hb dL_law_39 (by decide) (by decide) (by decide) (by decide) ?_
          exact law_c1 hfl hL hx hb hml hown hts hXs hbl hK hN hXK i hi hnx f pat sent rep kept rc los wai set bad gon bk bp bv ck cp cv ek em dat thr na hI H locs hP hD hS ls hl
        · refine lv_tableIn (off := 225) (tgt := 264) hx hb dL_law_39 (by decide) (by decide) (by decide) (by decide) ?_
          exact law_c2 hfl hL hx hb hml hown hts hXs hbl hK hN hXK i hi hnx f pat sent rep kept rc los wai set bad gon bk bp bv ck cp cv ek em dat thr na hI H locs hP hD hS ls hl
        · refine lv_tableIn (off := 293) (tgt := 332) hx hb dL_law_39 (by decide) (by decide) (by decide) (by decide) ?_
          exact law_c3 hfl hL hx hb hml hown hts hXs hbl hK hN hXK i hi hnx f pat sent rep kept rc los wai set bad gon bk bp bv ck cp cv ek em dat thr na hI H locs hP hD hS ls hl
        · refine lv_tableIn (off := 361) (tgt := 400) hx hb dL_law_39 (by decide) (by decide) (by decide) (by decide) ?_
          exact law_c4 hfl hL hx hb hml hown hts hXs hbl hK hN hXK i hi hnx f pat sent rep kept rc los wai set bad gon bk bp bv ck cp cv ek em dat thr na hI H locs hP hD hS ls hl
        · refine lv_tableIn (off := 429) (tgt := 468) hx hb dL_law_39 (by decide) (by decide) (by decide) (by decide) ?_
          exact law_c5 hfl hL hx hb hml hown hts hXs hbl hK hN hXK i hi hnx f pat sent rep kept rc los wai set bad gon bk bp bv ck cp cv ek em dat thr na hI H locs hP hD hS ls hl
        · refine lv_tableIn (off := 485) (tgt := 524) hx hb dL_law_39 (by decide) (by decide) (by decide) (by decide) ?_
          exact law_c6 hfl hL hx hb hml hown hts hXs hbl hK hN hXK i hi hnx f pat sent rep kept rc los wai set bad gon bk bp bv ck cp cv ek em dat thr na hI H locs hP hD hS ls hl
        · refine lv_tableIn (off := 529) (tgt := 568) hx hb dL_law_39 (by decide) (by decide) (by decide) (by decide) ?_
          exact law_c7 hfl hL hx hb hml hown hts hXs hbl hK hN hXK i hi hnx f pat sent rep kept rc los wai set bad gon bk bp bv ck cp cv ek em dat thr na hI H locs hP hD hS ls hl
        · refine lv_tableIn (off := 542) (tgt := 581) hx hb dL_law_39 (by decide) (by decide) (by decide) (by decide) ?_
          exact law_c8 hfl hL hx hb hml hown hts hXs hbl hK hN hXK i hi hnx f pat sent rep kept rc los wai set bad gon bk bp bv ck cp cv ek em dat thr na hI H locs hP hD hS ls hl
        · refine lv_tableIn (off := 555) (tgt := 594) hx hb dL_law_39 (by decide) (by decide) (by decide) (by decide) ?_
          exact law_c9 hfl hL hx hb hml hown hts hXs hbl hK hN hXK i hi hnx f pat sent rep kept rc los wai set bad gon bk bp bv ck cp cv ek em dat thr na hI H locs hP hD hS ls hl
        · refine lv_tableIn (off := 568) (tgt := 607) hx hb dL_law_39 (by decide) (by decide) (by decide) (by decide) ?_
          exact law_c10 hfl hL hx hb hml hown hts hXs hbl hK hN hXK i hi hnx f pat sent rep kept rc los wai set bad gon bk bp bv ck cp cv ek em dat thr na hI H locs hP hD hS ls hl
        · refine lv_tableIn (off := 581) (tgt := 620) hx hb dL_law_39 (by decide) (by decide) (by decide) (by decide) ?_
          exact law_c11 hfl hL hx hb hml hown hts hXs hbl hK hN hXK i hi hnx f pat sent rep kept rc los wai set bad gon bk bp bv ck cp cv ek em dat thr na hI H locs hP hD hS ls hl
        · refine lv_tableIn (off := 637) (tgt := 676) hx hb dL_law_39 (by decide) (by decide) (by decide) (by decide) ?_
          exact law_c12 hfl hL hx hb hml hown hts hXs hbl hK hN hXK i hi hnx f pat sent rep kept rc los wai set bad gon bk bp bv ck cp cv ek em dat thr na hI H locs hP hD hS ls hl
        · refine lv_tableIn (off := 693) (tgt := 732) hx hb dL_law_39 (by decide) (by decide) (by decide) (by decide) ?_
          exact law_c13 hfl hL hx hb hml hown hts hXs hbl hK hN hXK i hi hnx f pat sent rep kept rc los wai set bad gon bk bp bv ck cp cv ek em dat thr na hI H locs hP hD hS ls hl
        · refine lv_tableIn (off := 756) (tgt := 795) hx hb dL_law_39 (by decide) (by decide) (by decide) (by decide) ?_
          exact law_c14 hfl hL hx hb hml hown hts hXs hbl hK hN hXK i hi hnx f pat sent rep kept rc los wai set bad gon bk bp bv ck cp cv ek em dat thr na hI H locs hP hD hS ls hl
        · refine lv_tableIn (off := 812) (tgt := 851) hx hb dL_law_39 (by decide) (by decide) (by decide) (by decide) ?_
          exact law_c15 hfl hL hx hb hml hown hts hXs hbl hK hN hXK i hi hnx f pat sent rep kept rc los wai set bad gon bk bp bv ck cp cv ek em dat thr na hI H locs hP hD hS ls hl
        · refine lv_tableIn (off := 880) (tgt := 919) hx hb dL_law_39 (by decide) (by decide) (by decide) (by decide) ?_
          exact law_c16 hfl hL hx hb hml hown hts hXs hbl hK hN hXK i hi hnx f pat sent rep kept rc los wai set bad gon bk bp bv ck cp cv ek em dat thr na hI H locs hP hD hS ls hl
        · refine lv_tableIn (off := 936) (tgt := 975) hx hb dL_law_39 (by decide) (by decide) (by decide) (by decide) ?_
          exact law_c17 hfl hL hx hb hml hown hts hXs hbl hK hN hXK i hi hnx f pat sent rep kept rc los wai set bad gon bk bp bv ck cp cv ek em dat thr na hI H locs hP hD hS ls hl
        · refine lv_tableIn (off := 1004) (tgt := 1043) hx hb dL_law_39 (by decide) (by decide) (by decide) (by decide) ?_
          exact law_c18 hfl hL hx hb hml hown hts hXs hbl hK hN hXK i hi hnx f pat sent rep kept rc los wai set bad gon bk bp bv ck cp cv ek em dat thr na hI H locs hP hD hS ls hl
      · refine lv_tableOut (tgt := 1111) hx hb dL_law_39 (Or.inr (by rw [nI_toInt (by omega)]; omega)) (by decide) ?_
        refine W.widen (k := 100 + (i + 3)) (n := 1000 + 6 * (i + 3)) (by omega) (by omega) ?_
        exact hnx f pat sent rep kept rc los wai set bad gon bk bp bv ck cp cv ek em dat thr na hI H locs hP hD hS ls hl
