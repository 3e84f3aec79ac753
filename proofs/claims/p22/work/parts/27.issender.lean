section JF
variable {D : va_G} {cl : List vw_C} {H : Heap} {A : Nat → Prop} {cI cZ cQ : ClassId} {ad : Nat → Nat} {pat : Nat} {sent : Nat} {rep : Nat} {kept : Nat} {rc : Nat} {los : Nat → Nat} {wai : Nat → Nat} {set : Nat → Nat} {bad : Nat → Nat} {gon : Nat → Nat} {bk : Nat} {bp : Nat → B8} {bv : Nat → B8} {ck : Nat} {cp : Nat → B8} {cv : Nat → B8} {ek : Nat} {em : Nat → Nat → B8} {X : va_W}
theorem wF_eq : wF cI cZ cQ ad pat sent rep kept rc los wai set bad gon bk bp bv ck cp cv ek em ++ X = wA cI cZ ad pat sent rep kept rc los wai set bad gon bk bp bv ++ (wK cI cQ ad ck cp cv ek em ++ X) := by
  rw [← List.append_assoc]
  rfl
theorem jF_P (h : va_P D cl (wF cI cZ cQ ad pat sent rep kept rc los wai set bad gon bk bp bv ck cp cv ek em ++ X) H) : va_P D cl (wA cI cZ ad pat sent rep kept rc los wai set bad gon bk bp bv ++ (wK cI cQ ad ck cp cv ek em ++ X)) H := by
  rw [← wF_eq]
  exact h
theorem jF_D (h : va_D A (wF cI cZ cQ ad pat sent rep kept rc los wai set bad gon bk bp bv ck cp cv ek em ++ X)) : va_D A (wA cI cZ ad pat sent rep kept rc los wai set bad gon bk bp bv ++ (wK cI cQ ad ck cp cv ek em ++ X)) := by
  rw [← wF_eq]
  exact h
theorem jF_P' (h : va_P D cl (wA cI cZ ad pat sent rep kept rc los wai set bad gon bk bp bv ++ (wK cI cQ ad ck cp cv ek em ++ X)) H) : va_P D cl (wF cI cZ cQ ad pat sent rep kept rc los wai set bad gon bk bp bv ck cp cv ek em ++ X) H := by
  rw [wF_eq]
  exact h
theorem jF_D' (h : va_D A (wA cI cZ ad pat sent rep kept rc los wai set bad gon bk bp bv ++ (wK cI cQ ad ck cp cv ek em ++ X))) : va_D A (wF cI cZ cQ ad pat sent rep kept rc los wai set bad gon bk bp bv ck cp cv ek em ++ X) := by
  rw [wF_eq]
  exact h
end JF
theorem of_tn_bI (y : B8) : BitVec.ofNat 8 (tn (bI y)) = y := by
  unfold bI
  rw [tn_nI (by have := bI_lt y; omega), BitVec.ofNat_toNat, BitVec.setWidth_eq]
/-- what a rebuilding tells -/
def gv (k sv : Nat) (y : B8) : Int32 := if k ≤ pc sv then bI y else (-13)
theorem n_lt {n b : Nat} (hb : b < 2 ^ 31) (h : n < b) : 0 ≤ (nI n).toInt ∧ (nI n).toInt < (b : Int) := by
  rw [nI_toInt (by omega)]
  omega
theorem n_le {n b : Nat} (hb : b < 2 ^ 31) (h : n ≤ b) : 0 ≤ (nI n).toInt ∧ (nI n).toInt ≤ (b : Int) := by
  rw [nI_toInt (by omega)]
  omega
theorem n_no {n b : Nat} (hn : n < 2 ^ 31) (h : b ≤ n) : ¬ (0 ≤ (nI n).toInt ∧ (nI n).toInt < (b : Int)) := by
  rw [nI_toInt hn]
  omega
theorem b_le (y : B8) : 0 ≤ (bI y).toInt ∧ (bI y).toInt ≤ 255 := by
  rw [bI_toInt]
  have := bI_lt y
  omega
set_option maxHeartbeats 16000000 in
set_option maxRecDepth 100000 in
theorem c_L_isSender (l : Launch) (D : va_G) (cI cZ cQ cL : ClassId) (hfl : l.stackTraces = false) (b0 : Nat) (ad : Nat → Nat) (pat : Nat) (sent : Nat) (rep : Nat) (kept : Nat) (rc : Nat) (los : Nat → Nat) (wai : Nat → Nat) (set : Nat → Nat) (bad : Nat → Nat) (gon : Nat → Nat) (bk : Nat) (bp : Nat → B8) (bv : Nat → B8) (ck : Nat) (cp : Nat → B8) (cv : Nat → B8) (ek : Nat) (em : Nat → Nat → B8) (q0 q1 q2 : Nat) (dat : Nat → B8) (x : Nat) (sz : Nat) (hrc : rc ≤ 6) (hset : ∀ r, r < 6 → set r < 65536) (hgon : ∀ r, r < 6 → gon r ≤ 1) (hbk : bk ≤ 8) (hbk1 : 1 ≤ bk) (hbp : ∀ i, i < bk → bp i = BitVec.ofNat 8 i) (hbv : ∀ i, i < bk → bv i = dat i) (hsen : sent ≤ 10000) (hrp : rep < 2 ^ 20) (hkp : kept < 2 ^ 20) (hbad : ∀ r, r < 6 → bad r ≤ 20) (hx30 : x < 2 ^ 30) (hb0 : ∀ q, va_A ((wF cI cZ cQ ad (pat) (sent) (rep) (kept) (rc) (los) (wai) (set) (bad) (gon) (bk) (bp) (bv) (ck) (cp) (cv) (ek) (em)) ++ (wT cI q0 q1 q2 (nA bk pat sent rc rep kept) dat (rA los wai set bad gon))) sz q → b0 ≤ q) : Met l yL_isSender wsL_isSender ({ frames := 10, cells := 75, slots := 458, locals := 186 } : Room) (PX b0 D (TY cI cZ cQ cL) ((wF cI cZ cQ ad (pat) (sent) (rep) (kept) (rc) (los) (wai) (set) (bad) (gon) (bk) (bp) (bv) (ck) (cp) (cv) (ek) (em)) ++ (wT cI q0 q1 q2 (nA bk pat sent rc rep kept) dat (rA los wai set bad gon))) sz [.ref (ad 0), .ref (q0), .ref (q1), .ref (q2), .int (nI (x))]) (QI D (va_A ((wF cI cZ cQ ad (pat) (sent) (rep) (kept) (rc) (los) (wai) (set) (bad) (gon) (bk) (bp) (bv) (ck) (cp) (cv) (ek) (em)) ++ (wT cI q0 q1 q2 (nA bk pat sent rc rep kept) dat (rA los wai set bad gon))) sz) (fun (z9 : Int32) (u9 : va_W) => z9 = nI (1) ∧ ∃ (ck : Nat) (cp cv : Nat → B8) (ek : Nat) (em : Nat → Nat → B8), u9 = ((wF cI cZ cQ ad (pat) (sent) (rep) (kept) (rc) (los) (wai) (set) (bad) (gon) (bk) (bp) (bv) (ck) (cp) (cv) (ek) (em)) ++ (wT cI q0 q1 q2 (nA bk pat sent rc rep kept) dat (rA los wai set bad gon)))) (fun u9 => u9)) 75 458 (va_A ((wF cI cZ cQ ad (pat) (sent) (rep) (kept) (rc) (los) (wai) (set) (bad) (gon) (bk) (bp) (bv) (ck) (cp) (cv) (ek) (em)) ++ (wT cI q0 q1 q2 (nA bk pat sent rc rep kept) dat (rA los wai set bad gon))) sz) := by
  refine Met.ofW (cc := cL_isSender) (maxL := 9) (ret := (some .boolean)) (by decide) rfl ?_
  intro p e s m args below meth c s₁ B hml hv
  obtain ⟨rfl, hsz, hP, hK, hD0, hN, hX⟩ := hv
  have hx := B.exec
  have hb := B.bytes
  have hr := B.returns
  have hts := atoms_spec (ws := wsL_isSender) B.pre
  have hown : s.vm.findClass RL = some m.cls := findClass_of_methodNamed B.named
  have hlocks := B.notSynchronized
  subst hsz
  have hD := hD0.self (sz := s.heap.size)
  generalize hAe : va_A ((wF cI cZ cQ ad (pat) (sent) (rep) (kept) (rc) (los) (wai) (set) (bad) (gon) (bk) (bp) (bv) (ck) (cp) (cv) (ek) (em)) ++ (wT cI q0 q1 q2 (nA bk pat sent rc rep kept) dat (rA los wai set bad gon))) s.heap.size = A at hD hb0 ⊢
  have hAb := hb0
  have hA : ∀ q : Nat, s.heap.size ≤ q → A q := fun q h => by rw [← hAe]; exact Or.inr h
  have hS : va_S A s.heap s.heap [] := va_S.rf
  have hl := lv_entry ([.ref (ad 0), .ref (q0), .ref (q1), .ref (q2), .int (nI (x))]) (n := 9) (Nat.le_of_ble_eq_true rfl)
  rw [lg_entry_eq]
  generalize (lg_sl ([.ref (ad 0), .ref (q0), .ref (q1), .ref (q2), .int (nI (x))]) ++ List.replicate (9 - (lg_sl ([.ref (ad 0), .ref (q0), .ref (q1), .ref (q2), .int (nI (x))])).length) Slot.unset).toArray = ls at hl ⊢
  have hl : lv_has ls 9 [(0, .ref (ad 0)), (1, .ref (q0)), (2, .ref (q1)), (3, .ref (q2)), (4, .int (nI (x)))] := hl
  refine lv_aload_n hx hb dL_isSender_0 rfl (lv_at hl 0 rfl) ?_
  refine q_csi (va_runV (As := []) (rest := []) ⟨hx, hb, hml, hown, hts⟩ (c_X3_sent l D cI cZ cQ cL ad pat sent rep kept rc los wai set bad gon bk bp bv s.heap.size) (cwV 0 hts gL_isSender_X3_sent rfl rfl rfl ⟨rfl, hd_X3_sent⟩ ⟨Nat.le_of_ble_eq_true rfl, Nat.le_of_ble_eq_true rfl⟩) (PW_v (q := (RX3, TX3, 13)) (ci := 2) (q0 := 0) (jP_l (jF_P hP)) hK (jD_l (jF_D hD)) hN rfl rfl) rfl rfl hl.1 rfl (lv_room (Nat.le_of_ble_eq_true rfl)) dL_isSender_1 ⟨by show _ ≤ 75; omega, by show _ ≤ 458; omega⟩) (fun r_1 hr_1 => ?_)
  obtain rfl : r_1 = nI (sent) := hr_1
  refine lv_aload_n hx hb dL_isSender_4 rfl (lv_at hl 1 rfl) ?_
  refine lv_iconst (v := nI (2)) hx hb dL_isSender_5 (by decide) ?_
  refine q_iald (f := (nA bk pat sent rc rep kept)) (j := 2) hx hb hK (jP_r hP) 0 0 rfl rfl (by decide) (by decide) dL_isSender_6 ?_
  refine q_top (show nI ((nA bk pat sent rc rep kept) 2) = nI (sent) from rfl) ?_
  refine q_icmp_ne (u := ((sent : Nat) : Int)) (v := ((sent : Nat) : Int)) (tgt := 44) hx hb dL_isSender_7 (by decide) (nI_toInt (by omega)) (nI_toInt (by omega)) (fun c_7 => absurd c_7 (fun z => z rfl)) (fun c_7 => ?_)
  refine lv_aload_n hx hb dL_isSender_10 rfl (lv_at hl 0 rfl) ?_
  refine q_csi (va_runV (As := []) (rest := []) ⟨hx, hb, hml, hown, hts⟩ (c_X3_receivers l D cI cZ cQ cL ad pat sent rep kept rc los wai set bad gon bk bp bv s.heap.size) (cwV 0 hts gL_isSender_X3_receivers rfl rfl rfl ⟨rfl, hd_X3_receivers⟩ ⟨Nat.le_of_ble_eq_true rfl, Nat.le_of_ble_eq_true rfl⟩) (PW_v (q := (RX3, TX3, 13)) (ci := 2) (q0 := 0) (jP_l (jF_P hP)) hK (jD_l (jF_D hD)) hN rfl rfl) rfl rfl hl.1 rfl (lv_room (Nat.le_of_ble_eq_true rfl)) dL_isSender_11 ⟨by show _ ≤ 75; omega, by show _ ≤ 458; omega⟩) (fun r_11 hr_11 => ?_)
  obtain rfl : r_11 = nI (rc) := hr_11
  refine lv_aload_n hx hb dL_isSender_14 rfl (lv_at hl 1 rfl) ?_
  refine lv_iconst (v := nI (3)) hx hb dL_isSender_15 (by decide) ?_
  refine q_iald (f := (nA bk pat sent rc rep kept)) (j := 3) hx hb hK (jP_r hP) 0 0 rfl rfl (by decide) (by decide) dL_isSender_16 ?_
  refine q_top (show nI ((nA bk pat sent rc rep kept) 3) = nI (rc) from rfl) ?_
  refine q_icmp_ne (u := ((rc : Nat) : Int)) (v := ((rc : Nat) : Int)) (tgt := 44) hx hb dL_isSender_17 (by decide) (nI_toInt (by omega)) (nI_toInt (by omega)) (fun c_17 => absurd c_17 (fun z => z rfl)) (fun c_17 => ?_)
  refine lv_aload_n hx hb dL_isSender_20 rfl (lv_at hl 0 rfl) ?_
  refine q_csi (va_runV (As := []) (rest := []) ⟨hx, hb, hml, hown, hts⟩ (c_X3_reports l D cI cZ cQ cL ad pat sent rep kept rc los wai set bad gon bk bp bv s.heap.size) (cwV 0 hts gL_isSender_X3_reports rfl rfl rfl ⟨rfl, hd_X3_reports⟩ ⟨Nat.le_of_ble_eq_true rfl, Nat.le_of_ble_eq_true rfl⟩) (PW_v (q := (RX3, TX3, 13)) (ci := 2) (q0 := 0) (jP_l (jF_P hP)) hK (jD_l (jF_D hD)) hN rfl rfl) rfl rfl hl.1 rfl (lv_room (Nat.le_of_ble_eq_true rfl)) dL_isSender_21 ⟨by show _ ≤ 75; omega, by show _ ≤ 458; omega⟩) (fun r_21 hr_21 => ?_)
  obtain rfl : r_21 = nI (rep) := hr_21
  refine lv_aload_n hx hb dL_isSender_24 rfl (lv_at hl 1 rfl) ?_
  refine lv_iconst (v := nI (4)) hx hb dL_isSender_25 (by decide) ?_
  refine q_iald (f := (nA bk pat sent rc rep kept)) (j := 4) hx hb hK (jP_r hP) 0 0 rfl rfl (by decide) (by decide) dL_isSender_26 ?_
  refine q_top (show nI ((nA bk pat sent rc rep kept) 4) = nI (rep) from rfl) ?_
  refine q_icmp_ne (u := ((rep : Nat) : Int)) (v := ((rep : Nat) : Int)) (tgt := 44) hx hb dL_isSender_27 (by decide) (nI_toInt (by omega)) (nI_toInt (by omega)) (fun c_27 => absurd c_27 (fun z => z rfl)) (fun c_27 => ?_)
  refine lv_aload_n hx hb dL_isSender_30 rfl (lv_at hl 0 rfl) ?_
  refine q_csi (va_runV (As := []) (rest := []) ⟨hx, hb, hml, hown, hts⟩ (c_X3_keptBack l D cI cZ cQ cL ad pat sent rep kept rc los wai set bad gon bk bp bv s.heap.size) (cwV 0 hts gL_isSender_X3_keptBack rfl rfl rfl ⟨rfl, hd_X3_keptBack⟩ ⟨Nat.le_of_ble_eq_true rfl, Nat.le_of_ble_eq_true rfl⟩) (PW_v (q := (RX3, TX3, 13)) (ci := 2) (q0 := 0) (jP_l (jF_P hP)) hK (jD_l (jF_D hD)) hN rfl rfl) rfl rfl hl.1 rfl (lv_room (Nat.le_of_ble_eq_true rfl)) dL_isSender_31 ⟨by show _ ≤ 75; omega, by show _ ≤ 458; omega⟩) (fun r_31 hr_31 => ?_)
  obtain rfl : r_31 = nI (kept) := hr_31
  refine lv_aload_n hx hb dL_isSender_34 rfl (lv_at hl 1 rfl) ?_
  refine lv_iconst (v := nI (5)) hx hb dL_isSender_35 (by decide) ?_
  refine q_iald (f := (nA bk pat sent rc rep kept)) (j := 5) hx hb hK (jP_r hP) 0 0 rfl rfl (by decide) (by decide) dL_isSender_36 ?_
  refine q_top (show nI ((nA bk pat sent rc rep kept) 5) = nI (kept) from rfl) ?_
  refine q_icmp_ne (u := ((kept : Nat) : Int)) (v := ((kept : Nat) : Int)) (tgt := 44) hx hb dL_isSender_37 (by decide) (nI_toInt (by omega)) (nI_toInt (by omega)) (fun c_37 => absurd c_37 (fun z => z rfl)) (fun c_37 => ?_)
  refine lv_iconst (v := nI (1)) hx hb dL_isSender_40 (by decide) ?_
  refine lv_goto (tgt := 45) hx hb dL_isSender_41 (by decide) ?_
  refine lv_istore (lv' := [(5, .int (nI (1))), (0, .ref (ad 0)), (1, .ref (q0)), (2, .ref (q1)), (3, .ref (q2)), (4, .int (nI (x)))]) hx hb dL_isSender_45 hl (by decide) rfl (fun ls hl => ?_)
  refine lv_iconst (v := nI (0)) hx hb dL_isSender_47 (by decide) ?_
  refine lv_istore (lv' := [(6, .int (nI (0))), (5, .int (nI (1))), (0, .ref (ad 0)), (1, .ref (q0)), (2, .ref (q1)), (3, .ref (q2)), (4, .int (nI (x)))]) hx hb dL_isSender_48 hl (by decide) rfl (fun ls hl => ?_)
  have L50_5 : ∀ (n50_5 : Nat) (j : Nat) (ck : Nat) (cp : Nat → B8) (cv : Nat → B8) (ek : Nat) (em : Nat → Nat → B8), 7 - j < n50_5 → (j ≤ rc) → ∀ (H : Heap) (locs : List Loc), va_P D vwCl ((wF cI cZ cQ ad (pat) (sent) (rep) (kept) (rc) (los) (wai) (set) (bad) (gon) (bk) (bp) (bv) (ck) (cp) (cv) (ek) (em)) ++ (wT cI q0 q1 q2 (nA bk pat sent rc rep kept) dat (rA los wai set bad gon))) H → va_D A ((wF cI cZ cQ ad (pat) (sent) (rep) (kept) (rc) (los) (wai) (set) (bad) (gon) (bk) (bp) (bv) (ck) (cp) (cv) (ek) (em)) ++ (wT cI q0 q1 q2 (nA bk pat sent rc rep kept) dat (rA los wai set bad gon))) → va_S A s.heap H locs → ∀ (ls : Array Slot), lv_has ls 9 [(0, .ref (ad 0)), (1, .ref (q0)), (2, .ref (q1)), (3, .ref (q2)), (4, .int (nI (x))), (5, .int (nI (1))), (6, .int (nI (j)))] → W p l e (headSpec wsL_isSender ({ frames := 10, cells := 75, slots := 458, locals := 186 } : Room)).room s m ([.ref (ad 0), .ref (q0), .ref (q1), .ref (q2), .int (nI (x))] : List Value).toArray below meth c H locs (10 * j) (60 * j) (MQ below (QI D A (fun (z9 : Int32) (u9 : va_W) => z9 = nI (1) ∧ ∃ (ck : Nat) (cp cv : Nat → B8) (ek : Nat) (em : Nat → Nat → B8), u9 = ((wF cI cZ cQ ad (pat) (sent) (rep) (kept) (rc) (los) (wai) (set) (bad) (gon) (bk) (bp) (bv) (ck) (cp) (cv) (ek) (em)) ++ (wT cI q0 q1 q2 (nA bk pat sent rc rep kept) dat (rA los wai set bad gon)))) (fun u9 => u9)) ([.ref (ad 0), .ref (q0), .ref (q1), .ref (q2), .int (nI (x))] : List Value).toArray s 75 458 A) (F0 m 50 ls []) := by
    intro n50_5
    induction n50_5 with
    | zero =>
      intro j ck cp cv ek em hn50_5
      exact absurd hn50_5 (Nat.not_lt_zero _)
    | succ n50_5 ih50_5 =>
      intro j ck cp cv ek em hn50_5 hj H locs hP hD hS ls hl
      refine lv_iload hx hb dL_isSender_50 (lv_at hl 6 rfl) ?_
      refine lv_aload_n hx hb dL_isSender_52 rfl (lv_at hl 1 rfl) ?_
      refine lv_iconst (v := nI (3)) hx hb dL_isSender_53 (by decide) ?_
      refine q_iald (f := (nA bk pat sent rc rep kept)) (j := 3) hx hb hK (jP_r hP) 0 0 rfl rfl (by decide) (by decide) dL_isSender_54 ?_
      refine q_top (show nI ((nA bk pat sent rc rep kept) 3) = nI (rc) from rfl) ?_
      refine q_icmp_ge (u := ((j : Nat) : Int)) (v := ((rc : Nat) : Int)) (tgt := 231) hx hb dL_isSender_55 (by decide) (nI_toInt (by omega)) (nI_toInt (by omega)) (fun c_55 => ?_) (fun c_55 => ?_)
      · obtain rfl : rc = j := by omega
        refine lv_iconst (v := nI (0)) hx hb dL_isSender_231 (by decide) ?_
        refine lv_istore (lv' := [(6, .int (nI (0))), (0, .ref (ad 0)), (1, .ref (q0)), (2, .ref (q1)), (3, .ref (q2)), (4, .int (nI (x))), (5, .int (nI (1)))]) hx hb dL_isSender_232 hl (by decide) rfl (fun ls hl => ?_)
        have L234_7 : ∀ (n234_7 : Nat) (i : Nat) (ck : Nat) (cp : Nat → B8) (cv : Nat → B8) (ek : Nat) (em : Nat → Nat → B8), 5 - i < n234_7 → (i ≤ 4) → ∀ (H : Heap) (locs : List Loc), va_P D vwCl ((wF cI cZ cQ ad (pat) (sent) (rep) (kept) (rc) (los) (wai) (set) (bad) (gon) (bk) (bp) (bv) (ck) (cp) (cv) (ek) (em)) ++ (wT cI q0 q1 q2 (nA bk pat sent rc rep kept) dat (rA los wai set bad gon))) H → va_D A ((wF cI cZ cQ ad (pat) (sent) (rep) (kept) (rc) (los) (wai) (set) (bad) (gon) (bk) (bp) (bv) (ck) (cp) (cv) (ek) (em)) ++ (wT cI q0 q1 q2 (nA bk pat sent rc rep kept) dat (rA los wai set bad gon))) → va_S A s.heap H locs → ∀ (ls : Array Slot), lv_has ls 9 [(0, .ref (ad 0)), (1, .ref (q0)), (2, .ref (q1)), (3, .ref (q2)), (4, .int (nI (x))), (5, .int (nI (1))), (6, .int (nI (i)))] → W p l e (headSpec wsL_isSender ({ frames := 10, cells := 75, slots := 458, locals := 186 } : Room)).room s m ([.ref (ad 0), .ref (q0), .ref (q1), .ref (q2), .int (nI (x))] : List Value).toArray below meth c H locs (60 + 2 * i) (360 + 14 * i) (MQ below (QI D A (fun (z9 : Int32) (u9 : va_W) => z9 = nI (1) ∧ ∃ (ck : Nat) (cp cv : Nat → B8) (ek : Nat) (em : Nat → Nat → B8), u9 = ((wF cI cZ cQ ad (pat) (sent) (rep) (kept) (rc) (los) (wai) (set) (bad) (gon) (bk) (bp) (bv) (ck) (cp) (cv) (ek) (em)) ++ (wT cI q0 q1 q2 (nA bk pat sent rc rep kept) dat (rA los wai set bad gon)))) (fun u9 => u9)) ([.ref (ad 0), .ref (q0), .ref (q1), .ref (q2), .int (nI (x))] : List Value).toArray s 75 458 A) (F0 m 234 ls []) := by
          intro n234_7
          induction n234_7 with
          | zero =>
            intro i ck cp cv ek em hn234_7
            exact absurd hn234_7 (Nat.not_lt_zero _)
          | succ n234_7 ih234_7 =>
            intro i ck cp cv ek em hn234_7 hi H locs hP hD hS ls hl
            refine lv_iload hx hb dL_isSender_234 (lv_at hl 6 rfl) ?_
            refine lv_iconst (v := nI (4)) hx hb dL_isSender_236 (by decide) ?_
            refine q_icmp_ge (u := ((i : Nat) : Int)) (v := ((4 : Nat) : Int)) (tgt := 286) hx hb dL_isSender_237 (by decide) (nI_toInt (by omega)) (nI_toInt (by omega)) (fun c_237 => ?_) (fun c_237 => ?_)
            · obtain rfl : 4 = i := by omega
              refine lv_iload hx hb dL_isSender_286 (lv_at hl 4 rfl) ?_
              refine lv_sipush (v := nI (256)) hx hb dL_isSender_288 (by decide) ?_
              refine lv_irem hx hb dL_isSender_291 (by decide) ?_
              refine q_top (show (nI (x) - nI (x) / nI (256) * nI (256)) = bI (BitVec.ofNat 8 (x % 256)) from (pk_rem (by omega) (by decide) (by decide)).trans (bI_of (by omega))) ?_
              refine lv_istore (lv' := [(6, .int (bI (BitVec.ofNat 8 (x % 256)))), (0, .ref (ad 0)), (1, .ref (q0)), (2, .ref (q1)), (3, .ref (q2)), (4, .int (nI (x))), (5, .int (nI (1)))]) hx hb dL_isSender_292 hl (by decide) rfl (fun ls hl => ?_)
              refine lv_iload hx hb dL_isSender_294 (lv_at hl 5 rfl) ?_
              refine lv_sipush (v := nI (256)) hx hb dL_isSender_296 (by decide) ?_
              refine lv_idiv hx hb dL_isSender_299 (by decide) ?_
              refine q_top (show (nI (x) / nI (256)) = nI (x / 256) from pk_div (by omega) (by decide) (by decide)) ?_
              refine lv_sipush (v := nI (256)) hx hb dL_isSender_300 (by decide) ?_
              refine lv_irem hx hb dL_isSender_303 (by decide) ?_
              refine q_top (show (nI (x / 256) - nI (x / 256) / nI (256) * nI (256)) = bI (BitVec.ofNat 8 (x / 256 % 256)) from (pk_rem (by omega) (by decide) (by decide)).trans (bI_of (by omega))) ?_
              refine lv_istore (lv' := [(7, .int (bI (BitVec.ofNat 8 (x / 256 % 256)))), (6, .int (bI (BitVec.ofNat 8 (x % 256)))), (0, .ref (ad 0)), (1, .ref (q0)), (2, .ref (q1)), (3, .ref (q2)), (4, .int (nI (x))), (5, .int (nI (1)))]) hx hb dL_isSender_304 hl (by decide) rfl (fun ls hl => ?_)
              refine lv_iload hx hb dL_isSender_306 (lv_at hl 7 rfl) ?_
              refine q_if_eq (u := ((1 : Nat) : Int)) (tgt := 361) hx hb dL_isSender_308 (by decide) (nI_toInt (by omega)) (fun c_308 => absurd c_308 (by decide)) (fun _ => ?_)
              refine lv_aload_n hx hb dL_isSender_311 rfl (lv_at hl 2 rfl) ?_
              refine lv_iload hx hb dL_isSender_312 (lv_at hl 1 rfl) ?_
              refine lv_iload hx hb dL_isSender_314 (lv_at hl 0 rfl) ?_
              refine q_xcsi (vx_runV (As := [.int (bI (BitVec.ofNat 8 (x % 256))), .int (bI (BitVec.ofNat 8 (x / 256 % 256)))]) (rest := []) ⟨hx, hb, hml, hown, hts⟩ (c_X3_times l D cI cZ cQ cL hfl b0 ad pat sent rep kept rc los wai set bad gon bk bp bv (bI (BitVec.ofNat 8 (x % 256))) (bI (BitVec.ofNat 8 (x / 256 % 256))) H.size ) (cwV 2 hts gL_isSender_X3_times rfl rfl rfl ⟨rfl, hd_X3_times⟩ ⟨Nat.le_of_ble_eq_true rfl, Nat.le_of_ble_eq_true rfl⟩) (PX_v (q := (RX3, TX3, 13)) (ci := 2) (q0 := 0) (jP_l (jF_P hP)) hK (jD_l (jF_D hD)) hN hX (fun q9 h8 h9 => hS.2.1 q9 h8 (fun h7 => h9 (hAb q9 h7))) rfl rfl) rfl rfl hl.1 rfl (lv_room (Nat.le_of_ble_eq_true rfl)) dL_isSender_316 ⟨by show _ ≤ 75; omega, by show _ ≤ 458; omega⟩) hP hD hS (fun E ce q9 H9 locs9 hE hP9 hD9 hS9 hce hcv hcl => ?_) (fun r_316 hr_316 => ?_)
              · exact absurd (⟨b_le _, b_le _⟩) hE.2
              · obtain rfl : r_316 = bI (fm (BitVec.ofNat 8 (x % 256)) (BitVec.ofNat 8 (x / 256 % 256))) := hr_316.1.trans (by rw [of_tn_bI, of_tn_bI])
                refine lv_iload hx hb dL_isSender_319 (lv_at hl 1 rfl) ?_
                refine lv_iload hx hb dL_isSender_321 (lv_at hl 0 rfl) ?_
                refine q_csi (va_runS (As := [.int (bI (BitVec.ofNat 8 (x % 256))), .int (bI (BitVec.ofNat 8 (x / 256 % 256)))]) (rest := [.int (bI (fm (BitVec.ofNat 8 (x % 256)) (BitVec.ofNat 8 (x / 256 % 256))))]) ⟨hx, hb, hml, hown, hts⟩ (c_L_product l (BitVec.ofNat 8 (x % 256)) (BitVec.ofNat 8 (x / 256 % 256))) (va_cwS 2 hts gL_isSender_L_product rfl rfl rfl hd_L_product ⟨Nat.le_of_ble_eq_true rfl, Nat.le_of_ble_eq_true rfl⟩) P0_s rfl rfl hl.1 rfl (lv_room (Nat.le_of_ble_eq_true rfl)) dL_isSender_323 ⟨by show _ ≤ 75; omega, by show _ ≤ 458; omega⟩) (fun r_323 hr_323 => ?_)
                obtain rfl : r_323 = bI (fm (BitVec.ofNat 8 (x % 256)) (BitVec.ofNat 8 (x / 256 % 256))) := hr_323
                refine q_icmp_ne (u := (((fm (BitVec.ofNat 8 (x % 256)) (BitVec.ofNat 8 (x / 256 % 256))).toNat : Nat) : Int)) (v := (((fm (BitVec.ofNat 8 (x % 256)) (BitVec.ofNat 8 (x / 256 % 256))).toNat : Nat) : Int)) (tgt := 361) hx hb dL_isSender_326 (by decide) (bI_toInt _) (bI_toInt _) (fun c_326 => absurd c_326 (fun z => z rfl)) (fun c_326 => ?_)
                refine lv_aload_n hx hb dL_isSender_329 rfl (lv_at hl 2 rfl) ?_
                refine lv_iconst (v := nI (4)) hx hb dL_isSender_330 (by decide) ?_
                refine lv_aload_n hx hb dL_isSender_331 rfl (lv_at hl 3 rfl) ?_
                refine lv_iconst (v := nI (3)) hx hb dL_isSender_332 (by decide) ?_
                refine q_iald (f := (nA bk pat sent rc rep kept)) (j := 3) hx hb hK (jP_r hP) 0 0 rfl rfl (by decide) (by decide) dL_isSender_333 ?_
                refine q_top (show nI ((nA bk pat sent rc rep kept) 3) = nI (rc) from rfl) ?_
                refine lv_iconst (v := nI (0)) hx hb dL_isSender_334 (by decide) ?_
                refine j_ci (wc := (wF cI cZ cQ ad (pat) (sent) (rep) (kept) (rc) (los) (wai) (set) (bad) (gon) (bk) (bp) (bv) (ck) (cp) (cv) (ek) (em))) (pl := (wT cI q0 q1 q2 (nA bk pat sent rc rep kept) dat (rA los wai set bad gon))) (w1 := fun u9 => u9) (vx_runSW (As := [.ref (ad 0), .int (nI (4)), .int (nI (rc)), .int (nI (0))]) (rest := []) ⟨hx, hb, hml, hown, hts⟩ (c_L_does4 l D cI cZ cQ cL hfl b0 ad pat sent rep kept rc los wai set bad gon bk bp bv ck cp cv ek em (nI (rc)) (nI (0)) H.size hrc hset hbk hbp) (vx_cwSW 4 hts gL_isSender_L_does rfl rfl rfl hd_L_does ⟨Nat.le_of_ble_eq_true rfl, Nat.le_of_ble_eq_true rfl⟩) (PX_s (jP_l hP) hK (jD_l hD) hN hX (fun q9 h8 h9 => hS.2.1 q9 h8 (fun h7 => h9 (hAb q9 h7)))) rfl rfl hl.1 rfl (lv_room (Nat.le_of_ble_eq_true rfl)) dL_isSender_335 ⟨by show _ ≤ 75; omega, by show _ ≤ 458; omega⟩) hP hD hS hA (fun r_335 u_335 H locs hq_335 hP hD hS => ?_)
                obtain ⟨ck, cp, cv, ek, em, hr_335, rfl⟩ : ∃ (c1 : Nat) (c2 c3 : Nat → B8) (c4 : Nat) (c5 : Nat → Nat → B8), r_335 = (-11) ∧ u_335 = (wF cI cZ cQ ad pat sent rep kept rc los wai set bad gon bk bp bv c1 c2 c3 c4 c5) := by
                  rcases hq_335 with ⟨e1, e2, e3⟩ | ⟨e1, e2, e3⟩ | ⟨e1, e2, e3⟩
                  · exact absurd (n_no (by omega) (Nat.le_refl _) e2.1) (fun z => z)
                  · exact ⟨_, _, _, _, _, e1, e3⟩
                  · exact absurd (n_no (by omega) (Nat.le_refl _) e2.1.1) (fun z => z)
                subst hr_335
                clear hq_335
                have hP : va_P D vwCl ((wF cI cZ cQ ad (pat) (sent) (rep) (kept) (rc) (los) (wai) (set) (bad) (gon) (bk) (bp) (bv) (ck) (cp) (cv) (ek) (em)) ++ (wT cI q0 q1 q2 (nA bk pat sent rc rep kept) dat (rA los wai set bad gon))) H := hP
                have hD : va_D A ((wF cI cZ cQ ad (pat) (sent) (rep) (kept) (rc) (los) (wai) (set) (bad) (gon) (bk) (bp) (bv) (ck) (cp) (cv) (ek) (em)) ++ (wT cI q0 q1 q2 (nA bk pat sent rc rep kept) dat (rA los wai set bad gon))) := hD
                refine lv_bipush (v := ((-11))) hx hb dL_isSender_338 (by decide) ?_
                refine q_icmp_ne (u := (-11 : Int)) (v := (-11 : Int)) (tgt := 361) hx hb dL_isSender_340 (by decide) (by decide) (by decide) (fun c_340 => absurd c_340 (by decide)) (fun _ => ?_)
                refine lv_aload_n hx hb dL_isSender_343 rfl (lv_at hl 2 rfl) ?_
                refine lv_iconst (v := nI (5)) hx hb dL_isSender_344 (by decide) ?_
                refine lv_iconst (v := nI (0)) hx hb dL_isSender_345 (by decide) ?_
                refine lv_aload_n hx hb dL_isSender_346 rfl (lv_at hl 3 rfl) ?_
                refine lv_iconst (v := nI (0)) hx hb dL_isSender_347 (by decide) ?_
                refine q_iald (f := (nA bk pat sent rc rep kept)) (j := 0) hx hb hK (jP_r hP) 0 0 rfl rfl (by decide) (by decide) dL_isSender_348 ?_
                refine q_top (show nI ((nA bk pat sent rc rep kept) 0) = nI (bk) from rfl) ?_
                refine j_ci (wc := (wF cI cZ cQ ad (pat) (sent) (rep) (kept) (rc) (los) (wai) (set) (bad) (gon) (bk) (bp) (bv) (ck) (cp) (cv) (ek) (em))) (pl := (wT cI q0 q1 q2 (nA bk pat sent rc rep kept) dat (rA los wai set bad gon))) (w1 := fun u9 => u9) (vx_runSW (As := [.ref (ad 0), .int (nI (5)), .int (nI (0)), .int (nI (bk))]) (rest := []) ⟨hx, hb, hml, hown, hts⟩ (c_L_does5 l D cI cZ cQ cL hfl b0 ad pat sent rep kept rc los wai set bad gon bk bp bv ck cp cv ek em (nI (0)) (nI (bk)) H.size hrc hset hbk hbp) (vx_cwSW 4 hts gL_isSender_L_does rfl rfl rfl hd_L_does ⟨Nat.le_of_ble_eq_true rfl, Nat.le_of_ble_eq_true rfl⟩) (PX_s (jP_l hP) hK (jD_l hD) hN hX (fun q9 h8 h9 => hS.2.1 q9 h8 (fun h7 => h9 (hAb q9 h7)))) rfl rfl hl.1 rfl (lv_room (Nat.le_of_ble_eq_true rfl)) dL_isSender_349 ⟨by show _ ≤ 75; omega, by show _ ≤ 458; omega⟩) hP hD hS hA (fun r_349 u_349 H locs hq_349 hP hD hS => ?_)
                obtain ⟨ck, cp, cv, ek, em, hr_349, rfl⟩ : ∃ (c1 : Nat) (c2 c3 : Nat → B8) (c4 : Nat) (c5 : Nat → Nat → B8), r_349 = (-11) ∧ u_349 = (wF cI cZ cQ ad pat sent rep kept rc los wai set bad gon bk bp bv c1 c2 c3 c4 c5) := by
                  rcases hq_349 with ⟨e1, e2, e3⟩ | ⟨e1, e2, e3⟩ | ⟨e1, e2, e3⟩
                  · exact absurd (n_no (by omega) (Nat.le_refl _) e2.2.1) (fun z => z)
                  · exact ⟨_, _, _, _, _, e1, e3⟩
                  · exact absurd (n_no (by omega) (Nat.le_refl _) e2.1.2) (fun z => z)
                subst hr_349
                clear hq_349
                have hP : va_P D vwCl ((wF cI cZ cQ ad (pat) (sent) (rep) (kept) (rc) (los) (wai) (set) (bad) (gon) (bk) (bp) (bv) (ck) (cp) (cv) (ek) (em)) ++ (wT cI q0 q1 q2 (nA bk pat sent rc rep kept) dat (rA los wai set bad gon))) H := hP
                have hD : va_D A ((wF cI cZ cQ ad (pat) (sent) (rep) (kept) (rc) (los) (wai) (set) (bad) (gon) (bk) (bp) (bv) (ck) (cp) (cv) (ek) (em)) ++ (wT cI q0 q1 q2 (nA bk pat sent rc rep kept) dat (rA los wai set bad gon))) := hD
                refine lv_bipush (v := ((-11))) hx hb dL_isSender_352 (by decide) ?_
                refine q_icmp_ne (u := (-11 : Int)) (v := (-11 : Int)) (tgt := 361) hx hb dL_isSender_354 (by decide) (by decide) (by decide) (fun c_354 => absurd c_354 (by decide)) (fun _ => ?_)
                refine lv_iconst (v := nI (1)) hx hb dL_isSender_357 (by decide) ?_
                refine lv_goto (tgt := 362) hx hb dL_isSender_358 (by decide) ?_
                refine W.widen (k := 75) (n := 458) (by omega) (by omega) ?_
                have hP : va_P D vwCl ((wF cI cZ cQ ad (pat) (sent) (rep) (kept) (rc) (los) (wai) (set) (bad) (gon) (bk) (bp) (bv) (ck) (cp) (cv) (ek) (em)) ++ (wT cI q0 q1 q2 (nA bk pat sent rc rep kept) dat (rA los wai set bad gon))) H := hP
                have hD : va_D A ((wF cI cZ cQ ad (pat) (sent) (rep) (kept) (rc) (los) (wai) (set) (bad) (gon) (bk) (bp) (bv) (ck) (cp) (cv) (ek) (em)) ++ (wT cI q0 q1 q2 (nA bk pat sent rc rep kept) dat (rA los wai set bad gon))) := hD
                exact W.zret (v := nI (1)) hx hb hr rfl (fun t ht hW => ⟨⟨_, _, rfl, ⟨rfl, ck, cp, cv, ek, em, rfl⟩, by rw [ht]; exact hP, hD⟩, hS.F ht⟩) hS.2.2 dL_isSender_362
            · skip
              refine lv_iload hx hb dL_isSender_240 (lv_at hl 5 rfl) ?_
              refine q_if_eq (u := ((1 : Nat) : Int)) (tgt := 286) hx hb dL_isSender_242 (by decide) (nI_toInt (by omega)) (fun c_242 => absurd c_242 (by decide)) (fun _ => ?_)
              refine lv_iload hx hb dL_isSender_245 (lv_at hl 4 rfl) ?_
              refine lv_iconst (v := nI (5)) hx hb dL_isSender_247 (by decide) ?_
              refine lv_iload hx hb dL_isSender_248 (lv_at hl 6 rfl) ?_
              refine lv_imul hx hb dL_isSender_250 ?_
              refine q_top (show (nI (5) * nI (i)) = nI (5 * i) from pk_mul _ _) ?_
              refine lv_iadd hx hb dL_isSender_251 ?_
              refine q_top (show (nI (x) + nI (5 * i)) = nI (x + (5 * i)) from nI_add _ _) ?_
              refine lv_bipush (v := nI (16)) hx hb dL_isSender_252 (by decide) ?_
              refine lv_irem hx hb dL_isSender_254 (by decide) ?_
              refine q_top (show (nI (x + (5 * i)) - nI (x + (5 * i)) / nI (16) * nI (16)) = nI ((x + (5 * i)) % 16) from pk_rem (by omega) (by decide) (by decide)) ?_
              refine lv_istore (lv' := [(7, .int (nI ((x + (5 * i)) % 16))), (0, .ref (ad 0)), (1, .ref (q0)), (2, .ref (q1)), (3, .ref (q2)), (4, .int (nI (x))), (5, .int (nI (1))), (6, .int (nI (i)))]) hx hb dL_isSender_255 hl (by decide) rfl (fun ls hl => ?_)
              refine lv_aload_n hx hb dL_isSender_257 rfl (lv_at hl 1 rfl) ?_
              refine lv_iload hx hb dL_isSender_258 (lv_at hl 0 rfl) ?_
              refine q_xcsi (vx_runV (As := [.int (nI ((x + (5 * i)) % 16))]) (rest := []) ⟨hx, hb, hml, hown, hts⟩ (c_X3_packet l D cI cZ cQ cL hfl b0 ad pat sent rep kept rc los wai set bad gon bk bp bv (nI ((x + (5 * i)) % 16)) H.size hbk) (cwV 1 hts gL_isSender_X3_packet rfl rfl rfl ⟨rfl, hd_X3_packet⟩ ⟨Nat.le_of_ble_eq_true rfl, Nat.le_of_ble_eq_true rfl⟩) (PX_v (q := (RX3, TX3, 13)) (ci := 2) (q0 := 0) (jP_l (jF_P hP)) hK (jD_l (jF_D hD)) hN hX (fun q9 h8 h9 => hS.2.1 q9 h8 (fun h7 => h9 (hAb q9 h7))) rfl rfl) rfl rfl hl.1 rfl (lv_room (Nat.le_of_ble_eq_true rfl)) dL_isSender_260 ⟨by show _ ≤ 75; omega, by show _ ≤ 458; omega⟩) hP hD hS (fun E ce q9 H9 locs9 hE hP9 hD9 hS9 hce hcv hcl => ?_) (fun r_260 hr_260 => ?_)
              · exact absurd (n_le (b := 15) (by decide) (by omega)) hE.2
              · obtain rfl : r_260 = bI (lag bk (fun j => BitVec.ofNat 8 j) dat (BitVec.ofNat 8 ((x + (5 * i)) % 16))) := hr_260.1.trans (congrArg bI (by rw [tn_nI (by omega)]; exact lag_congr hbp hbv _))
                refine lv_aload_n hx hb dL_isSender_263 rfl (lv_at hl 2 rfl) ?_
                refine lv_aload_n hx hb dL_isSender_264 rfl (lv_at hl 3 rfl) ?_
                refine lv_iload hx hb dL_isSender_265 (lv_at hl 0 rfl) ?_
                refine j_ci (wc := (wT cI q0 q1 q2 (nA bk pat sent rc rep kept) dat (rA los wai set bad gon))) (pl := (wF cI cZ cQ ad (pat) (sent) (rep) (kept) (rc) (los) (wai) (set) (bad) (gon) (bk) (bp) (bv) (ck) (cp) (cv) (ek) (em))) (w1 := fun _ : Unit => (wT cI q0 q1 q2 (nA bk pat sent rc rep kept) dat (rA los wai set bad gon))) (va_runS (As := [.ref (q0), .ref (q1), .int (nI ((x + (5 * i)) % 16))]) (rest := [.int (bI (lag bk (fun j => BitVec.ofNat 8 j) dat (BitVec.ofNat 8 ((x + (5 * i)) % 16))))]) ⟨hx, hb, hml, hown, hts⟩ (c_L_packet l D cI cZ cQ cL q0 q1 q2 (nA bk pat sent rc rep kept) dat (rA los wai set bad gon) bk ((x + (5 * i)) % 16) H.size rfl hbk1 hbk (by omega)) (va_cwS 3 hts gL_isSender_L_packet rfl rfl rfl hd_L_packet ⟨Nat.le_of_ble_eq_true rfl, Nat.le_of_ble_eq_true rfl⟩) (PW_s (jP_r hP) hK (jD_r hD) hN) rfl rfl hl.1 rfl (lv_room (Nat.le_of_ble_eq_true rfl)) dL_isSender_267 ⟨by show _ ≤ 75; omega, by show _ ≤ 458; omega⟩) (jP_w hP) (jD_w hD) hS hA (fun r_267 u_267 H locs hr_267 hP hD hS => ?_)
                obtain rfl : r_267 = bI (lag bk (fun j => BitVec.ofNat 8 j) dat (BitVec.ofNat 8 ((x + (5 * i)) % 16))) := hr_267
                have hP := jP_w hP
                have hD := jD_w hD
                refine q_icmp_ne (u := (((lag bk (fun j => BitVec.ofNat 8 j) dat (BitVec.ofNat 8 ((x + (5 * i)) % 16))).toNat : Nat) : Int)) (v := (((lag bk (fun j => BitVec.ofNat 8 j) dat (BitVec.ofNat 8 ((x + (5 * i)) % 16))).toNat : Nat) : Int)) (tgt := 277) hx hb dL_isSender_270 (by decide) (bI_toInt _) (bI_toInt _) (fun c_270 => absurd c_270 (fun z => z rfl)) (fun c_270 => ?_)
                refine lv_iconst (v := nI (1)) hx hb dL_isSender_273 (by decide) ?_
                refine lv_goto (tgt := 278) hx hb dL_isSender_274 (by decide) ?_
                refine lv_istore (lv' := [(5, .int (nI (1))), (7, .int (nI ((x + (5 * i)) % 16))), (0, .ref (ad 0)), (1, .ref (q0)), (2, .ref (q1)), (3, .ref (q2)), (4, .int (nI (x))), (6, .int (nI (i)))]) hx hb dL_isSender_278 hl (by decide) rfl (fun ls hl => ?_)
                refine lv_iinc (v := nI (i + 1)) (lv' := [(6, .int (nI (i + 1))), (5, .int (nI (1))), (7, .int (nI ((x + (5 * i)) % 16))), (0, .ref (ad 0)), (1, .ref (q0)), (2, .ref (q1)), (3, .ref (q2)), (4, .int (nI (x)))]) hx hb dL_isSender_280 hl (k := 7) rfl (show nI (i) + Int32.ofInt 1 = nI (i + 1) from nI_add (i) 1) (by decide) rfl (fun ls hl => ?_)
                refine lv_goto (tgt := 234) hx hb dL_isSender_283 (by decide) ?_
                refine W.widen (k := 60 + 2 * (i + 1)) (n := 360 + 14 * (i + 1)) (by omega) (by omega) ?_
                have hP : va_P D vwCl ((wF cI cZ cQ ad (pat) (sent) (rep) (kept) (rc) (los) (wai) (set) (bad) (gon) (bk) (bp) (bv) (ck) (cp) (cv) (ek) (em)) ++ (wT cI q0 q1 q2 (nA bk pat sent rc rep kept) dat (rA los wai set bad gon))) H := hP
                have hD : va_D A ((wF cI cZ cQ ad (pat) (sent) (rep) (kept) (rc) (los) (wai) (set) (bad) (gon) (bk) (bp) (bv) (ck) (cp) (cv) (ek) (em)) ++ (wT cI q0 q1 q2 (nA bk pat sent rc rep kept) dat (rA los wai set bad gon))) := hD
                exact ih234_7 (i + 1) (ck) (cp) (cv) (ek) (em) (by omega) (by omega) _ _ hP hD hS ls (lv_sub hl [3, 4, 5, 6, 7, 1, 0] rfl)
        refine W.widen (k := 60 + 2 * 0) (n := 360 + 14 * 0) (by omega) (by omega) ?_
        have hP : va_P D vwCl ((wF cI cZ cQ ad (pat) (sent) (rep) (kept) (rc) (los) (wai) (set) (bad) (gon) (bk) (bp) (bv) (ck) (cp) (cv) (ek) (em)) ++ (wT cI q0 q1 q2 (nA bk pat sent rc rep kept) dat (rA los wai set bad gon))) H := hP
        have hD : va_D A ((wF cI cZ cQ ad (pat) (sent) (rep) (kept) (rc) (los) (wai) (set) (bad) (gon) (bk) (bp) (bv) (ck) (cp) (cv) (ek) (em)) ++ (wT cI q0 q1 q2 (nA bk pat sent rc rep kept) dat (rA los wai set bad gon))) := hD
        exact L234_7 _ (0) (ck) (cp) (cv) (ek) (em) (Nat.lt_succ_self _) (by omega) _ _ hP hD hS ls (lv_sub hl [1, 2, 3, 4, 5, 6, 0] rfl)
      · have hg9 := hgon j (by omega)
        have hs9 := hset j (by omega)
        have hb9 := hbad j (by omega)
        refine lv_iload hx hb dL_isSender_58 (lv_at hl 5 rfl) ?_
        refine q_if_eq (u := ((1 : Nat) : Int)) (tgt := 231) hx hb dL_isSender_60 (by decide) (nI_toInt (by omega)) (fun c_60 => absurd c_60 (by decide)) (fun _ => ?_)
        refine lv_aload_n hx hb dL_isSender_63 rfl (lv_at hl 1 rfl) ?_
        refine lv_aload_n hx hb dL_isSender_64 rfl (lv_at hl 3 rfl) ?_
        refine lv_iload hx hb dL_isSender_65 (lv_at hl 6 rfl) ?_
        refine q_csi (va_runS (As := [.ref (q0), .ref (q2), .int (nI (j))]) (rest := []) ⟨hx, hb, hml, hown, hts⟩ (c_L_need l D cI cZ cQ cL q0 q1 q2 (nA bk pat sent rc rep kept) dat (rA los wai set bad gon) bk (set j) j H.size rfl (rA_2 _ _ _ _ _ _) hbk (hset _ (by omega)) (by omega)) (va_cwS 3 hts gL_isSender_L_need rfl rfl rfl hd_L_need ⟨Nat.le_of_ble_eq_true rfl, Nat.le_of_ble_eq_true rfl⟩) (PW_s (jP_r hP) hK (jD_r hD) hN) rfl rfl hl.1 rfl (lv_room (Nat.le_of_ble_eq_true rfl)) dL_isSender_67 ⟨by show _ ≤ 75; omega, by show _ ≤ 458; omega⟩) (fun r_67 hr_67 => ?_)
        obtain rfl : r_67 = nI (bk - pc (set j)) := hr_67
        refine lv_istore (lv' := [(7, .int (nI (bk - pc (set j)))), (0, .ref (ad 0)), (1, .ref (q0)), (2, .ref (q1)), (3, .ref (q2)), (4, .int (nI (x))), (5, .int (nI (1))), (6, .int (nI (j)))]) hx hb dL_isSender_70 hl (by decide) rfl (fun ls hl => ?_)
        refine lv_aload_n hx hb dL_isSender_72 rfl (lv_at hl 1 rfl) ?_
        refine lv_iload hx hb dL_isSender_73 (lv_at hl 7 rfl) ?_
        refine q_xcsi (vx_runV (As := [.int (nI (j))]) (rest := []) ⟨hx, hb, hml, hown, hts⟩ (c_X3_has l D cI cZ cQ cL hfl b0 ad pat sent rep kept rc los wai set bad gon bk bp bv (nI (j)) H.size hrc hgon) (cwV 1 hts gL_isSender_X3_has rfl rfl rfl ⟨rfl, hd_X3_has⟩ ⟨Nat.le_of_ble_eq_true rfl, Nat.le_of_ble_eq_true rfl⟩) (PX_v (q := (RX3, TX3, 13)) (ci := 2) (q0 := 0) (jP_l (jF_P hP)) hK (jD_l (jF_D hD)) hN hX (fun q9 h8 h9 => hS.2.1 q9 h8 (fun h7 => h9 (hAb q9 h7))) rfl rfl) rfl rfl hl.1 rfl (lv_room (Nat.le_of_ble_eq_true rfl)) dL_isSender_75 ⟨by show _ ≤ 75; omega, by show _ ≤ 458; omega⟩) hP hD hS (fun E ce q9 H9 locs9 hE hP9 hD9 hS9 hce hcv hcl => ?_) (fun r_75 hr_75 => ?_)
        · exact absurd (n_lt (by omega) (by omega)) hE.2
        · obtain rfl : r_75 = nI (set j) := hr_75.1.trans (by rw [tn_nI (by omega)])
          refine lv_aload_n hx hb dL_isSender_78 rfl (lv_at hl 4 rfl) ?_
          refine lv_iconst (v := nI (5)) hx hb dL_isSender_79 (by decide) ?_
          refine lv_iload hx hb dL_isSender_80 (lv_at hl 7 rfl) ?_
          refine lv_imul hx hb dL_isSender_82 ?_
          refine q_top (show (nI (5) * nI (j)) = nI (5 * j) from pk_mul _ _) ?_
          refine lv_iconst (v := nI (2)) hx hb dL_isSender_83 (by decide) ?_
          refine lv_iadd hx hb dL_isSender_84 ?_
          refine q_top (show (nI (5 * j) + nI (2)) = nI ((5 * j) + 2) from nI_add _ _) ?_
          refine q_iald (f := (rA los wai set bad gon)) (j := (5 * j) + 2) hx hb hK (jP_r hP) 2 0 rfl rfl (by omega) (by decide) dL_isSender_85 ?_
          refine q_top (show nI ((rA los wai set bad gon) ((5 * j) + 2)) = nI (set j) from congrArg nI (rA_2 _ _ _ _ _ _)) ?_
          refine q_icmp_ne (u := ((set j : Nat) : Int)) (v := ((set j : Nat) : Int)) (tgt := 147) hx hb dL_isSender_86 (by decide) (nI_toInt (by omega)) (nI_toInt (by omega)) (fun c_86 => absurd c_86 (fun z => z rfl)) (fun c_86 => ?_)
          refine lv_aload_n hx hb dL_isSender_89 rfl (lv_at hl 1 rfl) ?_
          refine lv_iload hx hb dL_isSender_90 (lv_at hl 7 rfl) ?_
          refine q_xcsi (vx_runV (As := [.int (nI (j))]) (rest := []) ⟨hx, hb, hml, hown, hts⟩ (c_X3_need l D cI cZ cQ cL hfl b0 ad pat sent rep kept rc los wai set bad gon bk bp bv (nI (j)) H.size hrc hset hbk) (cwV 1 hts gL_isSender_X3_need rfl rfl rfl ⟨rfl, hd_X3_need⟩ ⟨Nat.le_of_ble_eq_true rfl, Nat.le_of_ble_eq_true rfl⟩) (PX_v (q := (RX3, TX3, 13)) (ci := 2) (q0 := 0) (jP_l (jF_P hP)) hK (jD_l (jF_D hD)) hN hX (fun q9 h8 h9 => hS.2.1 q9 h8 (fun h7 => h9 (hAb q9 h7))) rfl rfl) rfl rfl hl.1 rfl (lv_room (Nat.le_of_ble_eq_true rfl)) dL_isSender_92 ⟨by show _ ≤ 75; omega, by show _ ≤ 458; omega⟩) hP hD hS (fun E ce q9 H9 locs9 hE hP9 hD9 hS9 hce hcv hcl => ?_) (fun r_92 hr_92 => ?_)
          · exact absurd (n_lt (by omega) (by omega)) hE.2
          · obtain rfl : r_92 = nI (bk - pc (set j)) := hr_92.1.trans (by rw [tn_nI (by omega)])
            refine lv_iload hx hb dL_isSender_95 (lv_at hl 0 rfl) ?_
            refine q_icmp_ne (u := ((bk - pc (set j) : Nat) : Int)) (v := ((bk - pc (set j) : Nat) : Int)) (tgt := 147) hx hb dL_isSender_97 (by decide) (nI_toInt (by omega)) (nI_toInt (by omega)) (fun c_97 => absurd c_97 (fun z => z rfl)) (fun c_97 => ?_)
            refine lv_aload_n hx hb dL_isSender_100 rfl (lv_at hl 1 rfl) ?_
            refine lv_iload hx hb dL_isSender_101 (lv_at hl 7 rfl) ?_
            refine q_xcsi (vx_runV (As := [.int (nI (j))]) (rest := []) ⟨hx, hb, hml, hown, hts⟩ (c_X3_isDropped l D cI cZ cQ cL hfl b0 ad pat sent rep kept rc los wai set bad gon bk bp bv (nI (j)) H.size hrc hgon) (cwV 1 hts gL_isSender_X3_isDropped rfl rfl rfl ⟨rfl, hd_X3_isDropped⟩ ⟨Nat.le_of_ble_eq_true rfl, Nat.le_of_ble_eq_true rfl⟩) (PX_v (q := (RX3, TX3, 13)) (ci := 2) (q0 := 0) (jP_l (jF_P hP)) hK (jD_l (jF_D hD)) hN hX (fun q9 h8 h9 => hS.2.1 q9 h8 (fun h7 => h9 (hAb q9 h7))) rfl rfl) rfl rfl hl.1 rfl (lv_room (Nat.le_of_ble_eq_true rfl)) dL_isSender_103 ⟨by show _ ≤ 75; omega, by show _ ≤ 458; omega⟩) hP hD hS (fun E ce q9 H9 locs9 hE hP9 hD9 hS9 hce hcv hcl => ?_) (fun r_103 hr_103 => ?_)
            · exact absurd (n_lt (by omega) (by omega)) hE.2
            · obtain rfl : r_103 = nI (gon j) := hr_103.1.trans (by rw [tn_nI (by omega)])
              refine lv_aload_n hx hb dL_isSender_106 rfl (lv_at hl 4 rfl) ?_
              refine lv_iconst (v := nI (5)) hx hb dL_isSender_107 (by decide) ?_
              refine lv_iload hx hb dL_isSender_108 (lv_at hl 7 rfl) ?_
              refine lv_imul hx hb dL_isSender_110 ?_
              refine q_top (show (nI (5) * nI (j)) = nI (5 * j) from pk_mul _ _) ?_
              refine lv_iconst (v := nI (4)) hx hb dL_isSender_111 (by decide) ?_
              refine lv_iadd hx hb dL_isSender_112 ?_
              refine q_top (show (nI (5 * j) + nI (4)) = nI ((5 * j) + 4) from nI_add _ _) ?_
              refine q_iald (f := (rA los wai set bad gon)) (j := (5 * j) + 4) hx hb hK (jP_r hP) 2 0 rfl rfl (by omega) (by decide) dL_isSender_113 ?_
              refine q_top (show nI ((rA los wai set bad gon) ((5 * j) + 4)) = nI (gon j) from congrArg nI (rA_4 _ _ _ _ _ _)) ?_
              refine lv_iconst (v := nI (1)) hx hb dL_isSender_114 (by decide) ?_
              refine q_icmp_ne (u := ((gon j : Nat) : Int)) (v := ((1 : Nat) : Int)) (tgt := 122) hx hb dL_isSender_115 (by decide) (nI_toInt (by omega)) (nI_toInt (by omega)) (fun c_115 => ?_) (fun c_115 => ?_)
              · skip
                refine lv_iconst (v := nI (0)) hx hb dL_isSender_122 (by decide) ?_
                refine q_icmp_ne (u := ((gon j : Nat) : Int)) (v := ((0 : Nat) : Int)) (tgt := 147) hx hb dL_isSender_123 (by decide) (nI_toInt (by omega)) (nI_toInt (by omega)) (fun c_123 => absurd c_123 (fun z => z (by omega))) (fun c_123 => ?_)
                refine lv_aload_n hx hb dL_isSender_126 rfl (lv_at hl 1 rfl) ?_
                refine lv_iload hx hb dL_isSender_127 (lv_at hl 7 rfl) ?_
                refine q_xcsi (vx_runV (As := [.int (nI (j))]) (rest := []) ⟨hx, hb, hml, hown, hts⟩ (c_X3_badRounds l D cI cZ cQ cL hfl b0 ad pat sent rep kept rc los wai set bad gon bk bp bv (nI (j)) H.size hrc hgon) (cwV 1 hts gL_isSender_X3_badRounds rfl rfl rfl ⟨rfl, hd_X3_badRounds⟩ ⟨Nat.le_of_ble_eq_true rfl, Nat.le_of_ble_eq_true rfl⟩) (PX_v (q := (RX3, TX3, 13)) (ci := 2) (q0 := 0) (jP_l (jF_P hP)) hK (jD_l (jF_D hD)) hN hX (fun q9 h8 h9 => hS.2.1 q9 h8 (fun h7 => h9 (hAb q9 h7))) rfl rfl) rfl rfl hl.1 rfl (lv_room (Nat.le_of_ble_eq_true rfl)) dL_isSender_129 ⟨by show _ ≤ 75; omega, by show _ ≤ 458; omega⟩) hP hD hS (fun E ce q9 H9 locs9 hE hP9 hD9 hS9 hce hcv hcl => ?_) (fun r_129 hr_129 => ?_)
                · exact absurd (n_lt (by omega) (by omega)) hE.2
                · obtain rfl : r_129 = nI (bad j) := hr_129.1.trans (by rw [tn_nI (by omega)])
                  refine lv_aload_n hx hb dL_isSender_132 rfl (lv_at hl 4 rfl) ?_
                  refine lv_iconst (v := nI (5)) hx hb dL_isSender_133 (by decide) ?_
                  refine lv_iload hx hb dL_isSender_134 (lv_at hl 7 rfl) ?_
                  refine lv_imul hx hb dL_isSender_136 ?_
                  refine q_top (show (nI (5) * nI (j)) = nI (5 * j) from pk_mul _ _) ?_
                  refine lv_iconst (v := nI (3)) hx hb dL_isSender_137 (by decide) ?_
                  refine lv_iadd hx hb dL_isSender_138 ?_
                  refine q_top (show (nI (5 * j) + nI (3)) = nI ((5 * j) + 3) from nI_add _ _) ?_
                  refine q_iald (f := (rA los wai set bad gon)) (j := (5 * j) + 3) hx hb hK (jP_r hP) 2 0 rfl rfl (by omega) (by decide) dL_isSender_139 ?_
                  refine q_top (show nI ((rA los wai set bad gon) ((5 * j) + 3)) = nI (bad j) from congrArg nI (rA_3 _ _ _ _ _ _)) ?_
                  refine q_icmp_ne (u := ((bad j : Nat) : Int)) (v := ((bad j : Nat) : Int)) (tgt := 147) hx hb dL_isSender_140 (by decide) (nI_toInt (by omega)) (nI_toInt (by omega)) (fun c_140 => absurd c_140 (fun z => z rfl)) (fun c_140 => ?_)
                  refine lv_iconst (v := nI (1)) hx hb dL_isSender_143 (by decide) ?_
                  refine lv_goto (tgt := 148) hx hb dL_isSender_144 (by decide) ?_
                  refine lv_istore (lv' := [(5, .int (nI (1))), (7, .int (nI (bk - pc (set j)))), (0, .ref (ad 0)), (1, .ref (q0)), (2, .ref (q1)), (3, .ref (q2)), (4, .int (nI (x))), (6, .int (nI (j)))]) hx hb dL_isSender_148 hl (by decide) rfl (fun ls hl => ?_)
                  refine lv_iload hx hb dL_isSender_150 (lv_at hl 6 rfl) ?_
                  refine lv_iload hx hb dL_isSender_152 (lv_at hl 7 rfl) ?_
                  refine lv_iadd hx hb dL_isSender_154 ?_
                  refine q_top (show (nI (x) + nI (j)) = nI (x + j) from nI_add _ _) ?_
                  refine lv_aload_n hx hb dL_isSender_155 rfl (lv_at hl 3 rfl) ?_
                  refine lv_iconst (v := nI (0)) hx hb dL_isSender_156 (by decide) ?_
                  refine q_iald (f := (nA bk pat sent rc rep kept)) (j := 0) hx hb hK (jP_r hP) 0 0 rfl rfl (by decide) (by decide) dL_isSender_157 ?_
                  refine q_top (show nI ((nA bk pat sent rc rep kept) 0) = nI (bk) from rfl) ?_
                  have hpl := Nat.mod_lt (x + j) hbk1
                  refine lv_irem hx hb dL_isSender_158 (ni_ne0 (by omega) (by omega)) ?_
                  refine q_top (show (nI (x + j) - nI (x + j) / nI (bk) * nI (bk)) = nI ((x + j) % bk) from pk_rem (by omega) (by omega) (by omega)) ?_
                  refine lv_istore (lv' := [(8, .int (nI ((x + j) % bk))), (5, .int (nI (1))), (7, .int (nI (bk - pc (set j)))), (0, .ref (ad 0)), (1, .ref (q0)), (2, .ref (q1)), (3, .ref (q2)), (4, .int (nI (x))), (6, .int (nI (j)))]) hx hb dL_isSender_159 hl (by decide) rfl (fun ls hl => ?_)
                  refine lv_iload hx hb dL_isSender_161 (lv_at hl 1 rfl) ?_
                  refine q_if_eq (u := ((1 : Nat) : Int)) (tgt := 222) hx hb dL_isSender_163 (by decide) (nI_toInt (by omega)) (fun c_163 => absurd c_163 (by decide)) (fun _ => ?_)
                  refine lv_aload_n hx hb dL_isSender_166 rfl (lv_at hl 3 rfl) ?_
                  refine lv_iconst (v := nI (4)) hx hb dL_isSender_167 (by decide) ?_
                  refine lv_iload hx hb dL_isSender_168 (lv_at hl 8 rfl) ?_
                  refine lv_iload hx hb dL_isSender_170 (lv_at hl 0 rfl) ?_
                  refine j_ci (wc := (wF cI cZ cQ ad (pat) (sent) (rep) (kept) (rc) (los) (wai) (set) (bad) (gon) (bk) (bp) (bv) (ck) (cp) (cv) (ek) (em))) (pl := (wT cI q0 q1 q2 (nA bk pat sent rc rep kept) dat (rA los wai set bad gon))) (w1 := fun u9 => u9) (vx_runSW (As := [.ref (ad 0), .int (nI (4)), .int (nI (j)), .int (nI ((x + j) % bk))]) (rest := []) ⟨hx, hb, hml, hown, hts⟩ (c_L_does4 l D cI cZ cQ cL hfl b0 ad pat sent rep kept rc los wai set bad gon bk bp bv ck cp cv ek em (nI (j)) (nI ((x + j) % bk)) H.size hrc hset hbk hbp) (vx_cwSW 4 hts gL_isSender_L_does rfl rfl rfl hd_L_does ⟨Nat.le_of_ble_eq_true rfl, Nat.le_of_ble_eq_true rfl⟩) (PX_s (jP_l hP) hK (jD_l hD) hN hX (fun q9 h8 h9 => hS.2.1 q9 h8 (fun h7 => h9 (hAb q9 h7)))) rfl rfl hl.1 rfl (lv_room (Nat.le_of_ble_eq_true rfl)) dL_isSender_172 ⟨by show _ ≤ 75; omega, by show _ ≤ 458; omega⟩) hP hD hS hA (fun r_172 u_172 H locs hq_172 hP hD hS => ?_)
                  obtain ⟨ck, cp, cv, ek, em, hr_172, rfl⟩ : ∃ (c1 : Nat) (c2 c3 : Nat → B8) (c4 : Nat) (c5 : Nat → Nat → B8), r_172 = gv bk (set j) (bv ((x + j) % bk)) ∧ u_172 = (wF cI cZ cQ ad pat sent rep kept rc los wai set bad gon bk bp bv c1 c2 c3 c4 c5) := by
                    rcases hq_172 with ⟨e1, e2, e3⟩ | ⟨e1, e2, e3⟩ | ⟨e1, e2, e3⟩
                    · rw [tn_nI (by omega)] at e1 e2
                      exact ⟨_, _, _, _, _, e1.trans (if_pos e2.2.2).symm, e3⟩
                    · exact absurd ⟨n_lt (by omega) (by omega), n_lt (by omega) (by omega)⟩ e2
                    · rw [tn_nI (by omega)] at e2
                      exact ⟨_, _, _, _, _, e1.trans (if_neg e2.2).symm, e3⟩
                  clear hq_172
                  have hP : va_P D vwCl ((wF cI cZ cQ ad (pat) (sent) (rep) (kept) (rc) (los) (wai) (set) (bad) (gon) (bk) (bp) (bv) (ck) (cp) (cv) (ek) (em)) ++ (wT cI q0 q1 q2 (nA bk pat sent rc rep kept) dat (rA los wai set bad gon))) H := hP
                  have hD : va_D A ((wF cI cZ cQ ad (pat) (sent) (rep) (kept) (rc) (los) (wai) (set) (bad) (gon) (bk) (bp) (bv) (ck) (cp) (cv) (ek) (em)) ++ (wT cI q0 q1 q2 (nA bk pat sent rc rep kept) dat (rA los wai set bad gon))) := hD
                  refine lv_iload hx hb dL_isSender_175 (lv_at hl 2 rfl) ?_
                  refine q_if_le (u := ((bk - pc (set j) : Nat) : Int)) (tgt := 185) hx hb dL_isSender_177 (by decide) (nI_toInt (by omega)) (fun c_177 => ?_) (fun c_177 => ?_)
                  · obtain rfl : r_172 = bI (dat ((x + j) % bk)) := by rw [hr_172]; unfold gv; rw [if_pos (by omega), hbv _ (by omega)]
                    refine lv_aload_n hx hb dL_isSender_185 rfl (lv_at hl 5 rfl) ?_
                    refine lv_iload hx hb dL_isSender_186 (lv_at hl 0 rfl) ?_
                    refine q_ialdB (f := dat) (j := (x + j) % bk) hx hb hK (jP_r hP) 1 0 rfl rfl (by omega) (by decide) dL_isSender_188 ?_
                    refine q_icmp_ne (u := ((bI (dat ((x + j) % bk)))).toInt) (v := (((dat ((x + j) % bk)).toNat : Nat) : Int)) (tgt := 222) hx hb dL_isSender_189 (by decide) (rfl) (bI_toInt _) (fun c_189 => absurd c_189 (fun z => z (bI_toInt _))) (fun c_189 => ?_)
                    refine lv_aload_n hx hb dL_isSender_192 rfl (lv_at hl 3 rfl) ?_
                    refine lv_iconst (v := nI (5)) hx hb dL_isSender_193 (by decide) ?_
                    refine lv_iload hx hb dL_isSender_194 (lv_at hl 8 rfl) ?_
                    refine lv_iload hx hb dL_isSender_196 (lv_at hl 0 rfl) ?_
                    refine j_ci (wc := (wF cI cZ cQ ad (pat) (sent) (rep) (kept) (rc) (los) (wai) (set) (bad) (gon) (bk) (bp) (bv) (ck) (cp) (cv) (ek) (em))) (pl := (wT cI q0 q1 q2 (nA bk pat sent rc rep kept) dat (rA los wai set bad gon))) (w1 := fun u9 => u9) (vx_runSW (As := [.ref (ad 0), .int (nI (5)), .int (nI (j)), .int (nI ((x + j) % bk))]) (rest := []) ⟨hx, hb, hml, hown, hts⟩ (c_L_does5 l D cI cZ cQ cL hfl b0 ad pat sent rep kept rc los wai set bad gon bk bp bv ck cp cv ek em (nI (j)) (nI ((x + j) % bk)) H.size hrc hset hbk hbp) (vx_cwSW 4 hts gL_isSender_L_does rfl rfl rfl hd_L_does ⟨Nat.le_of_ble_eq_true rfl, Nat.le_of_ble_eq_true rfl⟩) (PX_s (jP_l hP) hK (jD_l hD) hN hX (fun q9 h8 h9 => hS.2.1 q9 h8 (fun h7 => h9 (hAb q9 h7)))) rfl rfl hl.1 rfl (lv_room (Nat.le_of_ble_eq_true rfl)) dL_isSender_198 ⟨by show _ ≤ 75; omega, by show _ ≤ 458; omega⟩) hP hD hS hA (fun r_198 u_198 H locs hq_198 hP hD hS => ?_)
                    obtain ⟨ck, cp, cv, ek, em, hr_198, rfl⟩ : ∃ (c1 : Nat) (c2 c3 : Nat → B8) (c4 : Nat) (c5 : Nat → Nat → B8), r_198 = gv bk (set j) (bv ((x + j) % bk)) ∧ u_198 = (wF cI cZ cQ ad pat sent rep kept rc los wai set bad gon bk bp bv c1 c2 c3 c4 c5) := by
                      rcases hq_198 with ⟨e1, e2, e3⟩ | ⟨e1, e2, e3⟩ | ⟨e1, e2, e3⟩
                      · rw [tn_nI (by omega)] at e1 e2
                        exact ⟨_, _, _, _, _, e1.trans (if_pos e2.2.2).symm, e3⟩
                      · exact absurd ⟨n_lt (by omega) (by omega), n_lt (by omega) (by omega)⟩ e2
                      · rw [tn_nI (by omega)] at e2
                        exact ⟨_, _, _, _, _, e1.trans (if_neg e2.2).symm, e3⟩
                    clear hq_198
                    have hP : va_P D vwCl ((wF cI cZ cQ ad (pat) (sent) (rep) (kept) (rc) (los) (wai) (set) (bad) (gon) (bk) (bp) (bv) (ck) (cp) (cv) (ek) (em)) ++ (wT cI q0 q1 q2 (nA bk pat sent rc rep kept) dat (rA los wai set bad gon))) H := hP
                    have hD : va_D A ((wF cI cZ cQ ad (pat) (sent) (rep) (kept) (rc) (los) (wai) (set) (bad) (gon) (bk) (bp) (bv) (ck) (cp) (cv) (ek) (em)) ++ (wT cI q0 q1 q2 (nA bk pat sent rc rep kept) dat (rA los wai set bad gon))) := hD
                    refine lv_iload hx hb dL_isSender_201 (lv_at hl 2 rfl) ?_
                    refine q_if_le (u := ((bk - pc (set j) : Nat) : Int)) (tgt := 211) hx hb dL_isSender_203 (by decide) (nI_toInt (by omega)) (fun c_203 => ?_) (fun c_203 => ?_)
                    · obtain rfl : r_198 = bI (dat ((x + j) % bk)) := by rw [hr_198]; unfold gv; rw [if_pos (by omega), hbv _ (by omega)]
                      refine lv_aload_n hx hb dL_isSender_211 rfl (lv_at hl 5 rfl) ?_
                      refine lv_iload hx hb dL_isSender_212 (lv_at hl 0 rfl) ?_
                      refine q_ialdB (f := dat) (j := (x + j) % bk) hx hb hK (jP_r hP) 1 0 rfl rfl (by omega) (by decide) dL_isSender_214 ?_
                      refine q_icmp_ne (u := ((bI (dat ((x + j) % bk)))).toInt) (v := (((dat ((x + j) % bk)).toNat : Nat) : Int)) (tgt := 222) hx hb dL_isSender_215 (by decide) (rfl) (bI_toInt _) (fun c_215 => absurd c_215 (fun z => z (bI_toInt _))) (fun c_215 => ?_)
                      refine lv_iconst (v := nI (1)) hx hb dL_isSender_218 (by decide) ?_
                      refine lv_goto (tgt := 223) hx hb dL_isSender_219 (by decide) ?_
                      refine lv_istore (lv' := [(5, .int (nI (1))), (8, .int (nI ((x + j) % bk))), (7, .int (nI (bk - pc (set j)))), (0, .ref (ad 0)), (1, .ref (q0)), (2, .ref (q1)), (3, .ref (q2)), (4, .int (nI (x))), (6, .int (nI (j)))]) hx hb dL_isSender_223 hl (by decide) rfl (fun ls hl => ?_)
                      refine lv_iinc (v := nI (j + 1)) (lv' := [(6, .int (nI (j + 1))), (5, .int (nI (1))), (8, .int (nI ((x + j) % bk))), (7, .int (nI (bk - pc (set j)))), (0, .ref (ad 0)), (1, .ref (q0)), (2, .ref (q1)), (3, .ref (q2)), (4, .int (nI (x)))]) hx hb dL_isSender_225 hl (k := 8) rfl (show nI (j) + Int32.ofInt 1 = nI (j + 1) from nI_add (j) 1) (by decide) rfl (fun ls hl => ?_)
                      refine lv_goto (tgt := 50) hx hb dL_isSender_228 (by decide) ?_
                      refine W.widen (k := 10 * (j + 1)) (n := 60 * (j + 1)) (by omega) (by omega) ?_
                      have hP : va_P D vwCl ((wF cI cZ cQ ad (pat) (sent) (rep) (kept) (rc) (los) (wai) (set) (bad) (gon) (bk) (bp) (bv) (ck) (cp) (cv) (ek) (em)) ++ (wT cI q0 q1 q2 (nA bk pat sent rc rep kept) dat (rA los wai set bad gon))) H := hP
                      have hD : va_D A ((wF cI cZ cQ ad (pat) (sent) (rep) (kept) (rc) (los) (wai) (set) (bad) (gon) (bk) (bp) (bv) (ck) (cp) (cv) (ek) (em)) ++ (wT cI q0 q1 q2 (nA bk pat sent rc rep kept) dat (rA los wai set bad gon))) := hD
                      exact ih50_5 (j + 1) (ck) (cp) (cv) (ek) (em) (by omega) (by omega) _ _ hP hD hS ls (lv_sub hl [4, 5, 6, 7, 8, 1, 0] rfl)
                    · obtain rfl : r_198 = (-13) := by rw [hr_198]; unfold gv; rw [if_neg (by omega)]
                      refine lv_bipush (v := ((-13))) hx hb dL_isSender_206 (by decide) ?_
                      refine lv_goto (tgt := 215) hx hb dL_isSender_208 (by decide) ?_
                      refine q_icmp_ne (u := (-13 : Int)) (v := (-13 : Int)) (tgt := 222) hx hb dL_isSender_215 (by decide) (by decide) (by decide) (fun c_215 => absurd c_215 (by decide)) (fun _ => ?_)
                      refine lv_iconst (v := nI (1)) hx hb dL_isSender_218 (by decide) ?_
                      refine lv_goto (tgt := 223) hx hb dL_isSender_219 (by decide) ?_
                      refine lv_istore (lv' := [(5, .int (nI (1))), (8, .int (nI ((x + j) % bk))), (7, .int (nI (bk - pc (set j)))), (0, .ref (ad 0)), (1, .ref (q0)), (2, .ref (q1)), (3, .ref (q2)), (4, .int (nI (x))), (6, .int (nI (j)))]) hx hb dL_isSender_223 hl (by decide) rfl (fun ls hl => ?_)
                      refine lv_iinc (v := nI (j + 1)) (lv' := [(6, .int (nI (j + 1))), (5, .int (nI (1))), (8, .int (nI ((x + j) % bk))), (7, .int (nI (bk - pc (set j)))), (0, .ref (ad 0)), (1, .ref (q0)), (2, .ref (q1)), (3, .ref (q2)), (4, .int (nI (x)))]) hx hb dL_isSender_225 hl (k := 8) rfl (show nI (j) + Int32.ofInt 1 = nI (j + 1) from nI_add (j) 1) (by decide) rfl (fun ls hl => ?_)
                      refine lv_goto (tgt := 50) hx hb dL_isSender_228 (by decide) ?_
                      refine W.widen (k := 10 * (j + 1)) (n := 60 * (j + 1)) (by omega) (by omega) ?_
                      have hP : va_P D vwCl ((wF cI cZ cQ ad (pat) (sent) (rep) (kept) (rc) (los) (wai) (set) (bad) (gon) (bk) (bp) (bv) (ck) (cp) (cv) (ek) (em)) ++ (wT cI q0 q1 q2 (nA bk pat sent rc rep kept) dat (rA los wai set bad gon))) H := hP
                      have hD : va_D A ((wF cI cZ cQ ad (pat) (sent) (rep) (kept) (rc) (los) (wai) (set) (bad) (gon) (bk) (bp) (bv) (ck) (cp) (cv) (ek) (em)) ++ (wT cI q0 q1 q2 (nA bk pat sent rc rep kept) dat (rA los wai set bad gon))) := hD
                      exact ih50_5 (j + 1) (ck) (cp) (cv) (ek) (em) (by omega) (by omega) _ _ hP hD hS ls (lv_sub hl [4, 5, 6, 7, 8, 1, 0] rfl)
                  · obtain rfl : r_172 = (-13) := by rw [hr_172]; unfold gv; rw [if_neg (by omega)]
                    refine lv_bipush (v := ((-13))) hx hb dL_isSender_180 (by decide) ?_
                    refine lv_goto (tgt := 189) hx hb dL_isSender_182 (by decide) ?_
                    refine q_icmp_ne (u := (-13 : Int)) (v := (-13 : Int)) (tgt := 222) hx hb dL_isSender_189 (by decide) (by decide) (by decide) (fun c_189 => absurd c_189 (by decide)) (fun _ => ?_)
                    refine lv_aload_n hx hb dL_isSender_192 rfl (lv_at hl 3 rfl) ?_
                    refine lv_iconst (v := nI (5)) hx hb dL_isSender_193 (by decide) ?_
                    refine lv_iload hx hb dL_isSender_194 (lv_at hl 8 rfl) ?_
                    refine lv_iload hx hb dL_isSender_196 (lv_at hl 0 rfl) ?_
                    refine j_ci (wc := (wF cI cZ cQ ad (pat) (sent) (rep) (kept) (rc) (los) (wai) (set) (bad) (gon) (bk) (bp) (bv) (ck) (cp) (cv) (ek) (em))) (pl := (wT cI q0 q1 q2 (nA bk pat sent rc rep kept) dat (rA los wai set bad gon))) (w1 := fun u9 => u9) (vx_runSW (As := [.ref (ad 0), .int (nI (5)), .int (nI (j)), .int (nI ((x + j) % bk))]) (rest := []) ⟨hx, hb, hml, hown, hts⟩ (c_L_does5 l D cI cZ cQ cL hfl b0 ad pat sent rep kept rc los wai set bad gon bk bp bv ck cp cv ek em (nI (j)) (nI ((x + j) % bk)) H.size hrc hset hbk hbp) (vx_cwSW 4 hts gL_isSender_L_does rfl rfl rfl hd_L_does ⟨Nat.le_of_ble_eq_true rfl, Nat.le_of_ble_eq_true rfl⟩) (PX_s (jP_l hP) hK (jD_l hD) hN hX (fun q9 h8 h9 => hS.2.1 q9 h8 (fun h7 => h9 (hAb q9 h7)))) rfl rfl hl.1 rfl (lv_room (Nat.le_of_ble_eq_true rfl)) dL_isSender_198 ⟨by show _ ≤ 75; omega, by show _ ≤ 458; omega⟩) hP hD hS hA (fun r_198 u_198 H locs hq_198 hP hD hS => ?_)
                    obtain ⟨ck, cp, cv, ek, em, hr_198, rfl⟩ : ∃ (c1 : Nat) (c2 c3 : Nat → B8) (c4 : Nat) (c5 : Nat → Nat → B8), r_198 = gv bk (set j) (bv ((x + j) % bk)) ∧ u_198 = (wF cI cZ cQ ad pat sent rep kept rc los wai set bad gon bk bp bv c1 c2 c3 c4 c5) := by
                      rcases hq_198 with ⟨e1, e2, e3⟩ | ⟨e1, e2, e3⟩ | ⟨e1, e2, e3⟩
                      · rw [tn_nI (by omega)] at e1 e2
                        exact ⟨_, _, _, _, _, e1.trans (if_pos e2.2.2).symm, e3⟩
                      · exact absurd ⟨n_lt (by omega) (by omega), n_lt (by omega) (by omega)⟩ e2
                      · rw [tn_nI (by omega)] at e2
                        exact ⟨_, _, _, _, _, e1.trans (if_neg e2.2).symm, e3⟩
                    clear hq_198
                    have hP : va_P D vwCl ((wF cI cZ cQ ad (pat) (sent) (rep) (kept) (rc) (los) (wai) (set) (bad) (gon) (bk) (bp) (bv) (ck) (cp) (cv) (ek) (em)) ++ (wT cI q0 q1 q2 (nA bk pat sent rc rep kept) dat (rA los wai set bad gon))) H := hP
                    have hD : va_D A ((wF cI cZ cQ ad (pat) (sent) (rep) (kept) (rc) (los) (wai) (set) (bad) (gon) (bk) (bp) (bv) (ck) (cp) (cv) (ek) (em)) ++ (wT cI q0 q1 q2 (nA bk pat sent rc rep kept) dat (rA los wai set bad gon))) := hD
                    refine lv_iload hx hb dL_isSender_201 (lv_at hl 2 rfl) ?_
                    refine q_if_le (u := ((bk - pc (set j) : Nat) : Int)) (tgt := 211) hx hb dL_isSender_203 (by decide) (nI_toInt (by omega)) (fun c_203 => ?_) (fun c_203 => ?_)
                    · obtain rfl : r_198 = bI (dat ((x + j) % bk)) := by rw [hr_198]; unfold gv; rw [if_pos (by omega), hbv _ (by omega)]
                      refine lv_aload_n hx hb dL_isSender_211 rfl (lv_at hl 5 rfl) ?_
                      refine lv_iload hx hb dL_isSender_212 (lv_at hl 0 rfl) ?_
                      refine q_ialdB (f := dat) (j := (x + j) % bk) hx hb hK (jP_r hP) 1 0 rfl rfl (by omega) (by decide) dL_isSender_214 ?_
                      refine q_icmp_ne (u := ((bI (dat ((x + j) % bk)))).toInt) (v := (((dat ((x + j) % bk)).toNat : Nat) : Int)) (tgt := 222) hx hb dL_isSender_215 (by decide) (rfl) (bI_toInt _) (fun c_215 => absurd c_215 (fun z => z (bI_toInt _))) (fun c_215 => ?_)
                      refine lv_iconst (v := nI (1)) hx hb dL_isSender_218 (by decide) ?_
                      refine lv_goto (tgt := 223) hx hb dL_isSender_219 (by decide) ?_
                      refine lv_istore (lv' := [(5, .int (nI (1))), (8, .int (nI ((x + j) % bk))), (7, .int (nI (bk - pc (set j)))), (0, .ref (ad 0)), (1, .ref (q0)), (2, .ref (q1)), (3, .ref (q2)), (4, .int (nI (x))), (6, .int (nI (j)))]) hx hb dL_isSender_223 hl (by decide) rfl (fun ls hl => ?_)
                      refine lv_iinc (v := nI (j + 1)) (lv' := [(6, .int (nI (j + 1))), (5, .int (nI (1))), (8, .int (nI ((x + j) % bk))), (7, .int (nI (bk - pc (set j)))), (0, .ref (ad 0)), (1, .ref (q0)), (2, .ref (q1)), (3, .ref (q2)), (4, .int (nI (x)))]) hx hb dL_isSender_225 hl (k := 8) rfl (show nI (j) + Int32.ofInt 1 = nI (j + 1) from nI_add (j) 1) (by decide) rfl (fun ls hl => ?_)
                      refine lv_goto (tgt := 50) hx hb dL_isSender_228 (by decide) ?_
                      refine W.widen (k := 10 * (j + 1)) (n := 60 * (j + 1)) (by omega) (by omega) ?_
                      have hP : va_P D vwCl ((wF cI cZ cQ ad (pat) (sent) (rep) (kept) (rc) (los) (wai) (set) (bad) (gon) (bk) (bp) (bv) (ck) (cp) (cv) (ek) (em)) ++ (wT cI q0 q1 q2 (nA bk pat sent rc rep kept) dat (rA los wai set bad gon))) H := hP
                      have hD : va_D A ((wF cI cZ cQ ad (pat) (sent) (rep) (kept) (rc) (los) (wai) (set) (bad) (gon) (bk) (bp) (bv) (ck) (cp) (cv) (ek) (em)) ++ (wT cI q0 q1 q2 (nA bk pat sent rc rep kept) dat (rA los wai set bad gon))) := hD
                      exact ih50_5 (j + 1) (ck) (cp) (cv) (ek) (em) (by omega) (by omega) _ _ hP hD hS ls (lv_sub hl [4, 5, 6, 7, 8, 1, 0] rfl)
                    · obtain rfl : r_198 = (-13) := by rw [hr_198]; unfold gv; rw [if_neg (by omega)]
                      refine lv_bipush (v := ((-13))) hx hb dL_isSender_206 (by decide) ?_
                      refine lv_goto (tgt := 215) hx hb dL_isSender_208 (by decide) ?_
                      refine q_icmp_ne (u := (-13 : Int)) (v := (-13 : Int)) (tgt := 222) hx hb dL_isSender_215 (by decide) (by decide) (by decide) (fun c_215 => absurd c_215 (by decide)) (fun _ => ?_)
                      refine lv_iconst (v := nI (1)) hx hb dL_isSender_218 (by decide) ?_
                      refine lv_goto (tgt := 223) hx hb dL_isSender_219 (by decide) ?_
                      refine lv_istore (lv' := [(5, .int (nI (1))), (8, .int (nI ((x + j) % bk))), (7, .int (nI (bk - pc (set j)))), (0, .ref (ad 0)), (1, .ref (q0)), (2, .ref (q1)), (3, .ref (q2)), (4, .int (nI (x))), (6, .int (nI (j)))]) hx hb dL_isSender_223 hl (by decide) rfl (fun ls hl => ?_)
                      refine lv_iinc (v := nI (j + 1)) (lv' := [(6, .int (nI (j + 1))), (5, .int (nI (1))), (8, .int (nI ((x + j) % bk))), (7, .int (nI (bk - pc (set j)))), (0, .ref (ad 0)), (1, .ref (q0)), (2, .ref (q1)), (3, .ref (q2)), (4, .int (nI (x)))]) hx hb dL_isSender_225 hl (k := 8) rfl (show nI (j) + Int32.ofInt 1 = nI (j + 1) from nI_add (j) 1) (by decide) rfl (fun ls hl => ?_)
                      refine lv_goto (tgt := 50) hx hb dL_isSender_228 (by decide) ?_
                      refine W.widen (k := 10 * (j + 1)) (n := 60 * (j + 1)) (by omega) (by omega) ?_
                      have hP : va_P D vwCl ((wF cI cZ cQ ad (pat) (sent) (rep) (kept) (rc) (los) (wai) (set) (bad) (gon) (bk) (bp) (bv) (ck) (cp) (cv) (ek) (em)) ++ (wT cI q0 q1 q2 (nA bk pat sent rc rep kept) dat (rA los wai set bad gon))) H := hP
                      have hD : va_D A ((wF cI cZ cQ ad (pat) (sent) (rep) (kept) (rc) (los) (wai) (set) (bad) (gon) (bk) (bp) (bv) (ck) (cp) (cv) (ek) (em)) ++ (wT cI q0 q1 q2 (nA bk pat sent rc rep kept) dat (rA los wai set bad gon))) := hD
                      exact ih50_5 (j + 1) (ck) (cp) (cv) (ek) (em) (by omega) (by omega) _ _ hP hD hS ls (lv_sub hl [4, 5, 6, 7, 8, 1, 0] rfl)
              · skip
                refine lv_iconst (v := nI (1)) hx hb dL_isSender_118 (by decide) ?_
                refine lv_goto (tgt := 123) hx hb dL_isSender_119 (by decide) ?_
                refine q_icmp_ne (u := ((gon j : Nat) : Int)) (v := ((1 : Nat) : Int)) (tgt := 147) hx hb dL_isSender_123 (by decide) (nI_toInt (by omega)) (nI_toInt (by omega)) (fun c_123 => absurd c_123 (fun z => z (by omega))) (fun c_123 => ?_)
                refine lv_aload_n hx hb dL_isSender_126 rfl (lv_at hl 1 rfl) ?_
                refine lv_iload hx hb dL_isSender_127 (lv_at hl 7 rfl) ?_
                refine q_xcsi (vx_runV (As := [.int (nI (j))]) (rest := []) ⟨hx, hb, hml, hown, hts⟩ (c_X3_badRounds l D cI cZ cQ cL hfl b0 ad pat sent rep kept rc los wai set bad gon bk bp bv (nI (j)) H.size hrc hgon) (cwV 1 hts gL_isSender_X3_badRounds rfl rfl rfl ⟨rfl, hd_X3_badRounds⟩ ⟨Nat.le_of_ble_eq_true rfl, Nat.le_of_ble_eq_true rfl⟩) (PX_v (q := (RX3, TX3, 13)) (ci := 2) (q0 := 0) (jP_l (jF_P hP)) hK (jD_l (jF_D hD)) hN hX (fun q9 h8 h9 => hS.2.1 q9 h8 (fun h7 => h9 (hAb q9 h7))) rfl rfl) rfl rfl hl.1 rfl (lv_room (Nat.le_of_ble_eq_true rfl)) dL_isSender_129 ⟨by show _ ≤ 75; omega, by show _ ≤ 458; omega⟩) hP hD hS (fun E ce q9 H9 locs9 hE hP9 hD9 hS9 hce hcv hcl => ?_) (fun r_129 hr_129 => ?_)
                · exact absurd (n_lt (by omega) (by omega)) hE.2
                · obtain rfl : r_129 = nI (bad j) := hr_129.1.trans (by rw [tn_nI (by omega)])
                  refine lv_aload_n hx hb dL_isSender_132 rfl (lv_at hl 4 rfl) ?_
                  refine lv_iconst (v := nI (5)) hx hb dL_isSender_133 (by decide) ?_
                  refine lv_iload hx hb dL_isSender_134 (lv_at hl 7 rfl) ?_
                  refine lv_imul hx hb dL_isSender_136 ?_
                  refine q_top (show (nI (5) * nI (j)) = nI (5 * j) from pk_mul _ _) ?_
                  refine lv_iconst (v := nI (3)) hx hb dL_isSender_137 (by decide) ?_
                  refine lv_iadd hx hb dL_isSender_138 ?_
                  refine q_top (show (nI (5 * j) + nI (3)) = nI ((5 * j) + 3) from nI_add _ _) ?_
                  refine q_iald (f := (rA los wai set bad gon)) (j := (5 * j) + 3) hx hb hK (jP_r hP) 2 0 rfl rfl (by omega) (by decide) dL_isSender_139 ?_
                  refine q_top (show nI ((rA los wai set bad gon) ((5 * j) + 3)) = nI (bad j) from congrArg nI (rA_3 _ _ _ _ _ _)) ?_
                  refine q_icmp_ne (u := ((bad j : Nat) : Int)) (v := ((bad j : Nat) : Int)) (tgt := 147) hx hb dL_isSender_140 (by decide) (nI_toInt (by omega)) (nI_toInt (by omega)) (fun c_140 => absurd c_140 (fun z => z rfl)) (fun c_140 => ?_)
                  refine lv_iconst (v := nI (1)) hx hb dL_isSender_143 (by decide) ?_
                  refine lv_goto (tgt := 148) hx hb dL_isSender_144 (by decide) ?_
                  refine lv_istore (lv' := [(5, .int (nI (1))), (7, .int (nI (bk - pc (set j)))), (0, .ref (ad 0)), (1, .ref (q0)), (2, .ref (q1)), (3, .ref (q2)), (4, .int (nI (x))), (6, .int (nI (j)))]) hx hb dL_isSender_148 hl (by decide) rfl (fun ls hl => ?_)
                  refine lv_iload hx hb dL_isSender_150 (lv_at hl 6 rfl) ?_
                  refine lv_iload hx hb dL_isSender_152 (lv_at hl 7 rfl) ?_
                  refine lv_iadd hx hb dL_isSender_154 ?_
                  refine q_top (show (nI (x) + nI (j)) = nI (x + j) from nI_add _ _) ?_
                  refine lv_aload_n hx hb dL_isSender_155 rfl (lv_at hl 3 rfl) ?_
                  refine lv_iconst (v := nI (0)) hx hb dL_isSender_156 (by decide) ?_
                  refine q_iald (f := (nA bk pat sent rc rep kept)) (j := 0) hx hb hK (jP_r hP) 0 0 rfl rfl (by decide) (by decide) dL_isSender_157 ?_
                  refine q_top (show nI ((nA bk pat sent rc rep kept) 0) = nI (bk) from rfl) ?_
                  have hpl := Nat.mod_lt (x + j) hbk1
                  refine lv_irem hx hb dL_isSender_158 (ni_ne0 (by omega) (by omega)) ?_
                  refine q_top (show (nI (x + j) - nI (x + j) / nI (bk) * nI (bk)) = nI ((x + j) % bk) from pk_rem (by omega) (by omega) (by omega)) ?_
                  refine lv_istore (lv' := [(8, .int (nI ((x + j) % bk))), (5, .int (nI (1))), (7, .int (nI (bk - pc (set j)))), (0, .ref (ad 0)), (1, .ref (q0)), (2, .ref (q1)), (3, .ref (q2)), (4, .int (nI (x))), (6, .int (nI (j)))]) hx hb dL_isSender_159 hl (by decide) rfl (fun ls hl => ?_)
                  refine lv_iload hx hb dL_isSender_161 (lv_at hl 1 rfl) ?_
                  refine q_if_eq (u := ((1 : Nat) : Int)) (tgt := 222) hx hb dL_isSender_163 (by decide) (nI_toInt (by omega)) (fun c_163 => absurd c_163 (by decide)) (fun _ => ?_)
                  refine lv_aload_n hx hb dL_isSender_166 rfl (lv_at hl 3 rfl) ?_
                  refine lv_iconst (v := nI (4)) hx hb dL_isSender_167 (by decide) ?_
                  refine lv_iload hx hb dL_isSender_168 (lv_at hl 8 rfl) ?_
                  refine lv_iload hx hb dL_isSender_170 (lv_at hl 0 rfl) ?_
                  refine j_ci (wc := (wF cI cZ cQ ad (pat) (sent) (rep) (kept) (rc) (los) (wai) (set) (bad) (gon) (bk) (bp) (bv) (ck) (cp) (cv) (ek) (em))) (pl := (wT cI q0 q1 q2 (nA bk pat sent rc rep kept) dat (rA los wai set bad gon))) (w1 := fun u9 => u9) (vx_runSW (As := [.ref (ad 0), .int (nI (4)), .int (nI (j)), .int (nI ((x + j) % bk))]) (rest := []) ⟨hx, hb, hml, hown, hts⟩ (c_L_does4 l D cI cZ cQ cL hfl b0 ad pat sent rep kept rc los wai set bad gon bk bp bv ck cp cv ek em (nI (j)) (nI ((x + j) % bk)) H.size hrc hset hbk hbp) (vx_cwSW 4 hts gL_isSender_L_does rfl rfl rfl hd_L_does ⟨Nat.le_of_ble_eq_true rfl, Nat.le_of_ble_eq_true rfl⟩) (PX_s (jP_l hP) hK (jD_l hD) hN hX (fun q9 h8 h9 => hS.2.1 q9 h8 (fun h7 => h9 (hAb q9 h7)))) rfl rfl hl.1 rfl (lv_room (Nat.le_of_ble_eq_true rfl)) dL_isSender_172 ⟨by show _ ≤ 75; omega, by show _ ≤ 458; omega⟩) hP hD hS hA (fun r_172 u_172 H locs hq_172 hP hD hS => ?_)
                  obtain ⟨ck, cp, cv, ek, em, hr_172, rfl⟩ : ∃ (c1 : Nat) (c2 c3 : Nat → B8) (c4 : Nat) (c5 : Nat → Nat → B8), r_172 = gv bk (set j) (bv ((x + j) % bk)) ∧ u_172 = (wF cI cZ cQ ad pat sent rep kept rc los wai set bad gon bk bp bv c1 c2 c3 c4 c5) := by
                    rcases hq_172 with ⟨e1, e2, e3⟩ | ⟨e1, e2, e3⟩ | ⟨e1, e2, e3⟩
                    · rw [tn_nI (by omega)] at e1 e2
                      exact ⟨_, _, _, _, _, e1.trans (if_pos e2.2.2).symm, e3⟩
                    · exact absurd ⟨n_lt (by omega) (by omega), n_lt (by omega) (by omega)⟩ e2
                    · rw [tn_nI (by omega)] at e2
                      exact ⟨_, _, _, _, _, e1.trans (if_neg e2.2).symm, e3⟩
                  clear hq_172
                  have hP : va_P D vwCl ((wF cI cZ cQ ad (pat) (sent) (rep) (kept) (rc) (los) (wai) (set) (bad) (gon) (bk) (bp) (bv) (ck) (cp) (cv) (ek) (em)) ++ (wT cI q0 q1 q2 (nA bk pat sent rc rep kept) dat (rA los wai set bad gon))) H := hP
                  have hD : va_D A ((wF cI cZ cQ ad (pat) (sent) (rep) (kept) (rc) (los) (wai) (set) (bad) (gon) (bk) (bp) (bv) (ck) (cp) (cv) (ek) (em)) ++ (wT cI q0 q1 q2 (nA bk pat sent rc rep kept) dat (rA los wai set bad gon))) := hD
                  refine lv_iload hx hb dL_isSender_175 (lv_at hl 2 rfl) ?_
                  refine q_if_le (u := ((bk - pc (set j) : Nat) : Int)) (tgt := 185) hx hb dL_isSender_177 (by decide) (nI_toInt (by omega)) (fun c_177 => ?_) (fun c_177 => ?_)
                  · obtain rfl : r_172 = bI (dat ((x + j) % bk)) := by rw [hr_172]; unfold gv; rw [if_pos (by omega), hbv _ (by omega)]
                    refine lv_aload_n hx hb dL_isSender_185 rfl (lv_at hl 5 rfl) ?_
                    refine lv_iload hx hb dL_isSender_186 (lv_at hl 0 rfl) ?_
                    refine q_ialdB (f := dat) (j := (x + j) % bk) hx hb hK (jP_r hP) 1 0 rfl rfl (by omega) (by decide) dL_isSender_188 ?_
                    refine q_icmp_ne (u := ((bI (dat ((x + j) % bk)))).toInt) (v := (((dat ((x + j) % bk)).toNat : Nat) : Int)) (tgt := 222) hx hb dL_isSender_189 (by decide) (rfl) (bI_toInt _) (fun c_189 => absurd c_189 (fun z => z (bI_toInt _))) (fun c_189 => ?_)
                    refine lv_aload_n hx hb dL_isSender_192 rfl (lv_at hl 3 rfl) ?_
                    refine lv_iconst (v := nI (5)) hx hb dL_isSender_193 (by decide) ?_
                    refine lv_iload hx hb dL_isSender_194 (lv_at hl 8 rfl) ?_
                    refine lv_iload hx hb dL_isSender_196 (lv_at hl 0 rfl) ?_
                    refine j_ci (wc := (wF cI cZ cQ ad (pat) (sent) (rep) (kept) (rc) (los) (wai) (set) (bad) (gon) (bk) (bp) (bv) (ck) (cp) (cv) (ek) (em))) (pl := (wT cI q0 q1 q2 (nA bk pat sent rc rep kept) dat (rA los wai set bad gon))) (w1 := fun u9 => u9) (vx_runSW (As := [.ref (ad 0), .int (nI (5)), .int (nI (j)), .int (nI ((x + j) % bk))]) (rest := []) ⟨hx, hb, hml, hown, hts⟩ (c_L_does5 l D cI cZ cQ cL hfl b0 ad pat sent rep kept rc los wai set bad gon bk bp bv ck cp cv ek em (nI (j)) (nI ((x + j) % bk)) H.size hrc hset hbk hbp) (vx_cwSW 4 hts gL_isSender_L_does rfl rfl rfl hd_L_does ⟨Nat.le_of_ble_eq_true rfl, Nat.le_of_ble_eq_true rfl⟩) (PX_s (jP_l hP) hK (jD_l hD) hN hX (fun q9 h8 h9 => hS.2.1 q9 h8 (fun h7 => h9 (hAb q9 h7)))) rfl rfl hl.1 rfl (lv_room (Nat.le_of_ble_eq_true rfl)) dL_isSender_198 ⟨by show _ ≤ 75; omega, by show _ ≤ 458; omega⟩) hP hD hS hA (fun r_198 u_198 H locs hq_198 hP hD hS => ?_)
                    obtain ⟨ck, cp, cv, ek, em, hr_198, rfl⟩ : ∃ (c1 : Nat) (c2 c3 : Nat → B8) (c4 : Nat) (c5 : Nat → Nat → B8), r_198 = gv bk (set j) (bv ((x + j) % bk)) ∧ u_198 = (wF cI cZ cQ ad pat sent rep kept rc los wai set bad gon bk bp bv c1 c2 c3 c4 c5) := by
                      rcases hq_198 with ⟨e1, e2, e3⟩ | ⟨e1, e2, e3⟩ | ⟨e1, e2, e3⟩
                      · rw [tn_nI (by omega)] at e1 e2
                        exact ⟨_, _, _, _, _, e1.trans (if_pos e2.2.2).symm, e3⟩
                      · exact absurd ⟨n_lt (by omega) (by omega), n_lt (by omega) (by omega)⟩ e2
                      · rw [tn_nI (by omega)] at e2
                        exact ⟨_, _, _, _, _, e1.trans (if_neg e2.2).symm, e3⟩
                    clear hq_198
                    have hP : va_P D vwCl ((wF cI cZ cQ ad (pat) (sent) (rep) (kept) (rc) (los) (wai) (set) (bad) (gon) (bk) (bp) (bv) (ck) (cp) (cv) (ek) (em)) ++ (wT cI q0 q1 q2 (nA bk pat sent rc rep kept) dat (rA los wai set bad gon))) H := hP
                    have hD : va_D A ((wF cI cZ cQ ad (pat) (sent) (rep) (kept) (rc) (los) (wai) (set) (bad) (gon) (bk) (bp) (bv) (ck) (cp) (cv) (ek) (em)) ++ (wT cI q0 q1 q2 (nA bk pat sent rc rep kept) dat (rA los wai set bad gon))) := hD
                    refine lv_iload hx hb dL_isSender_201 (lv_at hl 2 rfl) ?_
                    refine q_if_le (u := ((bk - pc (set j) : Nat) : Int)) (tgt := 211) hx hb dL_isSender_203 (by decide) (nI_toInt (by omega)) (fun c_203 => ?_) (fun c_203 => ?_)
                    · obtain rfl : r_198 = bI (dat ((x + j) % bk)) := by rw [hr_198]; unfold gv; rw [if_pos (by omega), hbv _ (by omega)]
                      refine lv_aload_n hx hb dL_isSender_211 rfl (lv_at hl 5 rfl) ?_
                      refine lv_iload hx hb dL_isSender_212 (lv_at hl 0 rfl) ?_
                      refine q_ialdB (f := dat) (j := (x + j) % bk) hx hb hK (jP_r hP) 1 0 rfl rfl (by omega) (by decide) dL_isSender_214 ?_
                      refine q_icmp_ne (u := ((bI (dat ((x + j) % bk)))).toInt) (v := (((dat ((x + j) % bk)).toNat : Nat) : Int)) (tgt := 222) hx hb dL_isSender_215 (by decide) (rfl) (bI_toInt _) (fun c_215 => absurd c_215 (fun z => z (bI_toInt _))) (fun c_215 => ?_)
                      refine lv_iconst (v := nI (1)) hx hb dL_isSender_218 (by decide) ?_
                      refine lv_goto (tgt := 223) hx hb dL_isSender_219 (by decide) ?_
                      refine lv_istore (lv' := [(5, .int (nI (1))), (8, .int (nI ((x + j) % bk))), (7, .int (nI (bk - pc (set j)))), (0, .ref (ad 0)), (1, .ref (q0)), (2, .ref (q1)), (3, .ref (q2)), (4, .int (nI (x))), (6, .int (nI (j)))]) hx hb dL_isSender_223 hl (by decide) rfl (fun ls hl => ?_)
                      refine lv_iinc (v := nI (j + 1)) (lv' := [(6, .int (nI (j + 1))), (5, .int (nI (1))), (8, .int (nI ((x + j) % bk))), (7, .int (nI (bk - pc (set j)))), (0, .ref (ad 0)), (1, .ref (q0)), (2, .ref (q1)), (3, .ref (q2)), (4, .int (nI (x)))]) hx hb dL_isSender_225 hl (k := 8) rfl (show nI (j) + Int32.ofInt 1 = nI (j + 1) from nI_add (j) 1) (by decide) rfl (fun ls hl => ?_)
                      refine lv_goto (tgt := 50) hx hb dL_isSender_228 (by decide) ?_
                      refine W.widen (k := 10 * (j + 1)) (n := 60 * (j + 1)) (by omega) (by omega) ?_
                      have hP : va_P D vwCl ((wF cI cZ cQ ad (pat) (sent) (rep) (kept) (rc) (los) (wai) (set) (bad) (gon) (bk) (bp) (bv) (ck) (cp) (cv) (ek) (em)) ++ (wT cI q0 q1 q2 (nA bk pat sent rc rep kept) dat (rA los wai set bad gon))) H := hP
                      have hD : va_D A ((wF cI cZ cQ ad (pat) (sent) (rep) (kept) (rc) (los) (wai) (set) (bad) (gon) (bk) (bp) (bv) (ck) (cp) (cv) (ek) (em)) ++ (wT cI q0 q1 q2 (nA bk pat sent rc rep kept) dat (rA los wai set bad gon))) := hD
                      exact ih50_5 (j + 1) (ck) (cp) (cv) (ek) (em) (by omega) (by omega) _ _ hP hD hS ls (lv_sub hl [4, 5, 6, 7, 8, 1, 0] rfl)
                    · obtain rfl : r_198 = (-13) := by rw [hr_198]; unfold gv; rw [if_neg (by omega)]
                      refine lv_bipush (v := ((-13))) hx hb dL_isSender_206 (by decide) ?_
                      refine lv_goto (tgt := 215) hx hb dL_isSender_208 (by decide) ?_
                      refine q_icmp_ne (u := (-13 : Int)) (v := (-13 : Int)) (tgt := 222) hx hb dL_isSender_215 (by decide) (by decide) (by decide) (fun c_215 => absurd c_215 (by decide)) (fun _ => ?_)
                      refine lv_iconst (v := nI (1)) hx hb dL_isSender_218 (by decide) ?_
                      refine lv_goto (tgt := 223) hx hb dL_isSender_219 (by decide) ?_
                      refine lv_istore (lv' := [(5, .int (nI (1))), (8, .int (nI ((x + j) % bk))), (7, .int (nI (bk - pc (set j)))), (0, .ref (ad 0)), (1, .ref (q0)), (2, .ref (q1)), (3, .ref (q2)), (4, .int (nI (x))), (6, .int (nI (j)))]) hx hb dL_isSender_223 hl (by decide) rfl (fun ls hl => ?_)
                      refine lv_iinc (v := nI (j + 1)) (lv' := [(6, .int (nI (j + 1))), (5, .int (nI (1))), (8, .int (nI ((x + j) % bk))), (7, .int (nI (bk - pc (set j)))), (0, .ref (ad 0)), (1, .ref (q0)), (2, .ref (q1)), (3, .ref (q2)), (4, .int (nI (x)))]) hx hb dL_isSender_225 hl (k := 8) rfl (show nI (j) + Int32.ofInt 1 = nI (j + 1) from nI_add (j) 1) (by decide) rfl (fun ls hl => ?_)
                      refine lv_goto (tgt := 50) hx hb dL_isSender_228 (by decide) ?_
                      refine W.widen (k := 10 * (j + 1)) (n := 60 * (j + 1)) (by omega) (by omega) ?_
                      have hP : va_P D vwCl ((wF cI cZ cQ ad (pat) (sent) (rep) (kept) (rc) (los) (wai) (set) (bad) (gon) (bk) (bp) (bv) (ck) (cp) (cv) (ek) (em)) ++ (wT cI q0 q1 q2 (nA bk pat sent rc rep kept) dat (rA los wai set bad gon))) H := hP
                      have hD : va_D A ((wF cI cZ cQ ad (pat) (sent) (rep) (kept) (rc) (los) (wai) (set) (bad) (gon) (bk) (bp) (bv) (ck) (cp) (cv) (ek) (em)) ++ (wT cI q0 q1 q2 (nA bk pat sent rc rep kept) dat (rA los wai set bad gon))) := hD
                      exact ih50_5 (j + 1) (ck) (cp) (cv) (ek) (em) (by omega) (by omega) _ _ hP hD hS ls (lv_sub hl [4, 5, 6, 7, 8, 1, 0] rfl)
                  · obtain rfl : r_172 = (-13) := by rw [hr_172]; unfold gv; rw [if_neg (by omega)]
                    refine lv_bipush (v := ((-13))) hx hb dL_isSender_180 (by decide) ?_
                    refine lv_goto (tgt := 189) hx hb dL_isSender_182 (by decide) ?_
                    refine q_icmp_ne (u := (-13 : Int)) (v := (-13 : Int)) (tgt := 222) hx hb dL_isSender_189 (by decide) (by decide) (by decide) (fun c_189 => absurd c_189 (by decide)) (fun _ => ?_)
                    refine lv_aload_n hx hb dL_isSender_192 rfl (lv_at hl 3 rfl) ?_
                    refine lv_iconst (v := nI (5)) hx hb dL_isSender_193 (by decide) ?_
                    refine lv_iload hx hb dL_isSender_194 (lv_at hl 8 rfl) ?_
                    refine lv_iload hx hb dL_isSender_196 (lv_at hl 0 rfl) ?_
                    refine j_ci (wc := (wF cI cZ cQ ad (pat) (sent) (rep) (kept) (rc) (los) (wai) (set) (bad) (gon) (bk) (bp) (bv) (ck) (cp) (cv) (ek) (em))) (pl := (wT cI q0 q1 q2 (nA bk pat sent rc rep kept) dat (rA los wai set bad gon))) (w1 := fun u9 => u9) (vx_runSW (As := [.ref (ad 0), .int (nI (5)), .int (nI (j)), .int (nI ((x + j) % bk))]) (rest := []) ⟨hx, hb, hml, hown, hts⟩ (c_L_does5 l D cI cZ cQ cL hfl b0 ad pat sent rep kept rc los wai set bad gon bk bp bv ck cp cv ek em (nI (j)) (nI ((x + j) % bk)) H.size hrc hset hbk hbp) (vx_cwSW 4 hts gL_isSender_L_does rfl rfl rfl hd_L_does ⟨Nat.le_of_ble_eq_true rfl, Nat.le_of_ble_eq_true rfl⟩) (PX_s (jP_l hP) hK (jD_l hD) hN hX (fun q9 h8 h9 => hS.2.1 q9 h8 (fun h7 => h9 (hAb q9 h7)))) rfl rfl hl.1 rfl (lv_room (Nat.le_of_ble_eq_true rfl)) dL_isSender_198 ⟨by show _ ≤ 75; omega, by show _ ≤ 458; omega⟩) hP hD hS hA (fun r_198 u_198 H locs hq_198 hP hD hS => ?_)
                    obtain ⟨ck, cp, cv, ek, em, hr_198, rfl⟩ : ∃ (c1 : Nat) (c2 c3 : Nat → B8) (c4 : Nat) (c5 : Nat → Nat → B8), r_198 = gv bk (set j) (bv ((x + j) % bk)) ∧ u_198 = (wF cI cZ cQ ad pat sent rep kept rc los wai set bad gon bk bp bv c1 c2 c3 c4 c5) := by
                      rcases hq_198 with ⟨e1, e2, e3⟩ | ⟨e1, e2, e3⟩ | ⟨e1, e2, e3⟩
                      · rw [tn_nI (by omega)] at e1 e2
                        exact ⟨_, _, _, _, _, e1.trans (if_pos e2.2.2).symm, e3⟩
                      · exact absurd ⟨n_lt (by omega) (by omega), n_lt (by omega) (by omega)⟩ e2
                      · rw [tn_nI (by omega)] at e2
                        exact ⟨_, _, _, _, _, e1.trans (if_neg e2.2).symm, e3⟩
                    clear hq_198
                    have hP : va_P D vwCl ((wF cI cZ cQ ad (pat) (sent) (rep) (kept) (rc) (los) (wai) (set) (bad) (gon) (bk) (bp) (bv) (ck) (cp) (cv) (ek) (em)) ++ (wT cI q0 q1 q2 (nA bk pat sent rc rep kept) dat (rA los wai set bad gon))) H := hP
                    have hD : va_D A ((wF cI cZ cQ ad (pat) (sent) (rep) (kept) (rc) (los) (wai) (set) (bad) (gon) (bk) (bp) (bv) (ck) (cp) (cv) (ek) (em)) ++ (wT cI q0 q1 q2 (nA bk pat sent rc rep kept) dat (rA los wai set bad gon))) := hD
                    refine lv_iload hx hb dL_isSender_201 (lv_at hl 2 rfl) ?_
                    refine q_if_le (u := ((bk - pc (set j) : Nat) : Int)) (tgt := 211) hx hb dL_isSender_203 (by decide) (nI_toInt (by omega)) (fun c_203 => ?_) (fun c_203 => ?_)
                    · obtain rfl : r_198 = bI (dat ((x + j) % bk)) := by rw [hr_198]; unfold gv; rw [if_pos (by omega), hbv _ (by omega)]
                      refine lv_aload_n hx hb dL_isSender_211 rfl (lv_at hl 5 rfl) ?_
                      refine lv_iload hx hb dL_isSender_212 (lv_at hl 0 rfl) ?_
                      refine q_ialdB (f := dat) (j := (x + j) % bk) hx hb hK (jP_r hP) 1 0 rfl rfl (by omega) (by decide) dL_isSender_214 ?_
                      refine q_icmp_ne (u := ((bI (dat ((x + j) % bk)))).toInt) (v := (((dat ((x + j) % bk)).toNat : Nat) : Int)) (tgt := 222) hx hb dL_isSender_215 (by decide) (rfl) (bI_toInt _) (fun c_215 => absurd c_215 (fun z => z (bI_toInt _))) (fun c_215 => ?_)
                      refine lv_iconst (v := nI (1)) hx hb dL_isSender_218 (by decide) ?_
                      refine lv_goto (tgt := 223) hx hb dL_isSender_219 (by decide) ?_
                      refine lv_istore (lv' := [(5, .int (nI (1))), (8, .int (nI ((x + j) % bk))), (7, .int (nI (bk - pc (set j)))), (0, .ref (ad 0)), (1, .ref (q0)), (2, .ref (q1)), (3, .ref (q2)), (4, .int (nI (x))), (6, .int (nI (j)))]) hx hb dL_isSender_223 hl (by decide) rfl (fun ls hl => ?_)
                      refine lv_iinc (v := nI (j + 1)) (lv' := [(6, .int (nI (j + 1))), (5, .int (nI (1))), (8, .int (nI ((x + j) % bk))), (7, .int (nI (bk - pc (set j)))), (0, .ref (ad 0)), (1, .ref (q0)), (2, .ref (q1)), (3, .ref (q2)), (4, .int (nI (x)))]) hx hb dL_isSender_225 hl (k := 8) rfl (show nI (j) + Int32.ofInt 1 = nI (j + 1) from nI_add (j) 1) (by decide) rfl (fun ls hl => ?_)
                      refine lv_goto (tgt := 50) hx hb dL_isSender_228 (by decide) ?_
                      refine W.widen (k := 10 * (j + 1)) (n := 60 * (j + 1)) (by omega) (by omega) ?_
                      have hP : va_P D vwCl ((wF cI cZ cQ ad (pat) (sent) (rep) (kept) (rc) (los) (wai) (set) (bad) (gon) (bk) (bp) (bv) (ck) (cp) (cv) (ek) (em)) ++ (wT cI q0 q1 q2 (nA bk pat sent rc rep kept) dat (rA los wai set bad gon))) H := hP
                      have hD : va_D A ((wF cI cZ cQ ad (pat) (sent) (rep) (kept) (rc) (los) (wai) (set) (bad) (gon) (bk) (bp) (bv) (ck) (cp) (cv) (ek) (em)) ++ (wT cI q0 q1 q2 (nA bk pat sent rc rep kept) dat (rA los wai set bad gon))) := hD
                      exact ih50_5 (j + 1) (ck) (cp) (cv) (ek) (em) (by omega) (by omega) _ _ hP hD hS ls (lv_sub hl [4, 5, 6, 7, 8, 1, 0] rfl)
                    · obtain rfl : r_198 = (-13) := by rw [hr_198]; unfold gv; rw [if_neg (by omega)]
                      refine lv_bipush (v := ((-13))) hx hb dL_isSender_206 (by decide) ?_
                      refine lv_goto (tgt := 215) hx hb dL_isSender_208 (by decide) ?_
                      refine q_icmp_ne (u := (-13 : Int)) (v := (-13 : Int)) (tgt := 222) hx hb dL_isSender_215 (by decide) (by decide) (by decide) (fun c_215 => absurd c_215 (by decide)) (fun _ => ?_)
                      refine lv_iconst (v := nI (1)) hx hb dL_isSender_218 (by decide) ?_
                      refine lv_goto (tgt := 223) hx hb dL_isSender_219 (by decide) ?_
                      refine lv_istore (lv' := [(5, .int (nI (1))), (8, .int (nI ((x + j) % bk))), (7, .int (nI (bk - pc (set j)))), (0, .ref (ad 0)), (1, .ref (q0)), (2, .ref (q1)), (3, .ref (q2)), (4, .int (nI (x))), (6, .int (nI (j)))]) hx hb dL_isSender_223 hl (by decide) rfl (fun ls hl => ?_)
                      refine lv_iinc (v := nI (j + 1)) (lv' := [(6, .int (nI (j + 1))), (5, .int (nI (1))), (8, .int (nI ((x + j) % bk))), (7, .int (nI (bk - pc (set j)))), (0, .ref (ad 0)), (1, .ref (q0)), (2, .ref (q1)), (3, .ref (q2)), (4, .int (nI (x)))]) hx hb dL_isSender_225 hl (k := 8) rfl (show nI (j) + Int32.ofInt 1 = nI (j + 1) from nI_add (j) 1) (by decide) rfl (fun ls hl => ?_)
                      refine lv_goto (tgt := 50) hx hb dL_isSender_228 (by decide) ?_
                      refine W.widen (k := 10 * (j + 1)) (n := 60 * (j + 1)) (by omega) (by omega) ?_
                      have hP : va_P D vwCl ((wF cI cZ cQ ad (pat) (sent) (rep) (kept) (rc) (los) (wai) (set) (bad) (gon) (bk) (bp) (bv) (ck) (cp) (cv) (ek) (em)) ++ (wT cI q0 q1 q2 (nA bk pat sent rc rep kept) dat (rA los wai set bad gon))) H := hP
                      have hD : va_D A ((wF cI cZ cQ ad (pat) (sent) (rep) (kept) (rc) (los) (wai) (set) (bad) (gon) (bk) (bp) (bv) (ck) (cp) (cv) (ek) (em)) ++ (wT cI q0 q1 q2 (nA bk pat sent rc rep kept) dat (rA los wai set bad gon))) := hD
                      exact ih50_5 (j + 1) (ck) (cp) (cv) (ek) (em) (by omega) (by omega) _ _ hP hD hS ls (lv_sub hl [4, 5, 6, 7, 8, 1, 0] rfl)
  refine W.widen (k := 10 * 0) (n := 60 * 0) (by omega) (by omega) ?_
  have hP : va_P D vwCl ((wF cI cZ cQ ad (pat) (sent) (rep) (kept) (rc) (los) (wai) (set) (bad) (gon) (bk) (bp) (bv) (ck) (cp) (cv) (ek) (em)) ++ (wT cI q0 q1 q2 (nA bk pat sent rc rep kept) dat (rA los wai set bad gon))) s.heap := hP
  have hD : va_D A ((wF cI cZ cQ ad (pat) (sent) (rep) (kept) (rc) (los) (wai) (set) (bad) (gon) (bk) (bp) (bv) (ck) (cp) (cv) (ek) (em)) ++ (wT cI q0 q1 q2 (nA bk pat sent rc rep kept) dat (rA los wai set bad gon))) := hD
  exact L50_5 _ (0) (ck) (cp) (cv) (ek) (em) (Nat.lt_succ_self _) (by omega) _ _ hP hD hS ls (lv_sub hl [2, 3, 4, 5, 6, 1, 0] rfl)
