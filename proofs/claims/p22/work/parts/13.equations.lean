/-! what the rows hold, step by step -/
def wrR (n : Nat) (pp pv : Nat → B8) (M : Nat → Nat → B8) (r : Nat) : Nat → Nat → B8 := fun i j => if i < r then (if j < n then fpw (pp i) j else if j = n then pv i else M i j) else M i j
def wrC (n : Nat) (pp pv : Nat → B8) (M : Nat → Nat → B8) (r q : Nat) : Nat → Nat → B8 := fun i j => if i = r ∧ j < q then fpw (pp r) j else wrR n pp pv M r i j
theorem wrR_0 (n : Nat) (pp pv : Nat → B8) (M : Nat → Nat → B8) : wrR n pp pv M 0 = M := by
  funext i j
  simp [wrR]
theorem wrC_0 (n : Nat) (pp pv : Nat → B8) (M : Nat → Nat → B8) (r : Nat) : wrC n pp pv M r 0 = wrR n pp pv M r := by
  funext i j
  simp [wrC]
theorem wrC_s (n : Nat) (pp pv : Nat → B8) (M : Nat → Nat → B8) (r q : Nat) : um (wrC n pp pv M r q) r (ub (wrC n pp pv M r q r) q (fpw (pp r) q)) = wrC n pp pv M r (q + 1) := by
  funext i j
  unfold um
  by_cases h : i = r
  · subst h
    rw [if_pos rfl]
    unfold ub wrC
    by_cases h2 : j = q
    · subst h2
      rw [if_pos rfl, if_pos ⟨rfl, by omega⟩]
    · rw [if_neg h2]
      by_cases h3 : j < q
      · rw [if_pos ⟨rfl, h3⟩, if_pos ⟨rfl, by omega⟩]
      · rw [if_neg (fun z => h3 z.2), if_neg (fun z => by omega)]
  · rw [if_neg h]
    unfold wrC
    rw [if_neg (fun z => h z.1), if_neg (fun z => h z.1)]
theorem wrR_s (n : Nat) (pp pv : Nat → B8) (M : Nat → Nat → B8) (r : Nat) : um (wrC n pp pv M r n) r (ub (wrC n pp pv M r n r) n (pv r)) = wrR n pp pv M (r + 1) := by
  funext i j
  unfold um
  by_cases h : i = r
  · subst h
    rw [if_pos rfl]
    unfold ub wrC wrR
    by_cases h2 : j = n
    · subst h2
      rw [if_pos rfl, if_pos (by omega), if_neg (by omega), if_pos rfl]
    · rw [if_neg h2, if_pos (show i < i + 1 by omega)]
      by_cases h3 : j < n
      · rw [if_pos ⟨rfl, h3⟩, if_pos h3]
      · rw [if_neg (fun z => h3 z.2), if_neg (by omega), if_neg h3, if_neg h2]
  · rw [if_neg h]
    unfold wrC wrR
    rw [if_neg (fun z => h z.1)]
    by_cases h2 : i < r
    · rw [if_pos h2, if_pos (show i < r + 1 by omega)]
    · rw [if_neg h2, if_neg (by omega)]
def scl (M : Nat → Nat → B8) (r0 : Nat) (f : B8) (q : Nat) : Nat → Nat → B8 := fun i j => if i = r0 ∧ j < q then fm (M i j) f else M i j
theorem scl_0 (M : Nat → Nat → B8) (r0 : Nat) (f : B8) : scl M r0 f 0 = M := by
  funext i j
  simp [scl]
theorem scl_at (M : Nat → Nat → B8) (r0 : Nat) (f : B8) (q : Nat) : scl M r0 f q r0 q = M r0 q := by simp [scl]
theorem scl_s (M : Nat → Nat → B8) (r0 : Nat) (f : B8) (q : Nat) : um (scl M r0 f q) r0 (ub (scl M r0 f q r0) q (fm (scl M r0 f q r0 q) f)) = scl M r0 f (q + 1) := by
  rw [scl_at]
  funext i j
  unfold um
  by_cases h : i = r0
  · subst h
    rw [if_pos rfl]
    unfold ub scl
    by_cases h2 : j = q
    · subst h2
      rw [if_pos rfl, if_pos ⟨rfl, by omega⟩]
    · rw [if_neg h2]
      by_cases h3 : j < q
      · rw [if_pos ⟨rfl, h3⟩, if_pos ⟨rfl, by omega⟩]
      · rw [if_neg (fun z => h3 z.2), if_neg (fun z => by omega)]
  · rw [if_neg h]
    unfold scl
    rw [if_neg (fun z => h z.1), if_neg (fun z => h z.1)]
def adm (M : Nat → Nat → B8) (r0 ad0 : Nat) (f : B8) (q : Nat) : Nat → Nat → B8 := fun i j => if i = r0 ∧ j < q then M i j ^^^ fm (M ad0 j) f else M i j
theorem adm_0 (M : Nat → Nat → B8) (r0 ad0 : Nat) (f : B8) : adm M r0 ad0 f 0 = M := by
  funext i j
  simp [adm]
theorem adm_s (M : Nat → Nat → B8) {r0 ad0 : Nat} (h0 : r0 ≠ ad0) (f : B8) (q : Nat) : um (adm M r0 ad0 f q) r0 (ub (adm M r0 ad0 f q r0) q ((adm M r0 ad0 f q r0 q) ^^^ (fm (adm M r0 ad0 f q ad0 q) f))) = adm M r0 ad0 f (q + 1) := by
  have e1 : adm M r0 ad0 f q r0 q = M r0 q := by simp [adm]
  have e2 : adm M r0 ad0 f q ad0 q = M ad0 q := by
    unfold adm
    rw [if_neg (fun z => h0 z.1.symm)]
  rw [e1, e2]
  funext i j
  unfold um
  by_cases h : i = r0
  · subst h
    rw [if_pos rfl]
    unfold ub adm
    by_cases h2 : j = q
    · subst h2
      rw [if_pos rfl, if_pos ⟨rfl, by omega⟩]
    · rw [if_neg h2]
      by_cases h3 : j < q
      · rw [if_pos ⟨rfl, h3⟩, if_pos ⟨rfl, by omega⟩]
      · rw [if_neg (fun z => h3 z.2), if_neg (fun z => by omega)]
  · rw [if_neg h]
    unfold adm
    rw [if_neg (fun z => h z.1), if_neg (fun z => h z.1)]
/-- within column t, with q rows seen -/
def elR (n t : Nat) (M : Nat → Nat → B8) (q : Nat) : Nat → Nat → B8 := fun i j => if j ≤ n then (if i = t then fm (M t j) (finv (M t t)) else if i < q then M i j ^^^ fm (fm (M t j) (finv (M t t))) (M i t) else M i j) else M i j
theorem elR_0 (n t : Nat) (M : Nat → Nat → B8) : scl M t (finv (M t t)) (n + 1) = elR n t M 0 := by
  funext i j
  unfold scl elR
  by_cases h : j ≤ n
  · rw [if_pos h]
    by_cases h2 : i = t
    · subst h2
      rw [if_pos ⟨rfl, by omega⟩, if_pos rfl]
    · rw [if_neg (fun z => h2 z.1), if_neg h2, if_neg (by omega)]
  · rw [if_neg h, if_neg (fun z => h (by omega))]
theorem elR_n (n t : Nat) (M : Nat → Nat → B8) : elR n t M n = elS n t M := by
  funext i j
  rfl
theorem elR_t {n t : Nat} (M : Nat → Nat → B8) : elR n t M t = elR n t M (t + 1) := by
  funext i j
  unfold elR
  by_cases h : j ≤ n
  · rw [if_pos h, if_pos h]
    by_cases h2 : i = t
    · rw [if_pos h2, if_pos h2]
    · rw [if_neg h2, if_neg h2]
      by_cases h3 : i < t
      · rw [if_pos h3, if_pos (by omega)]
      · rw [if_neg h3, if_neg (by omega)]
  · rw [if_neg h, if_neg h]
theorem elR_s {n t q : Nat} (M : Nat → Nat → B8) (ht : t ≤ n) (hq : q ≠ t) : adm (elR n t M q) q t (elR n t M q q t) (n + 1) = elR n t M (q + 1) := by
  have e1 : elR n t M q q t = M q t := by
    unfold elR
    rw [if_pos ht, if_neg hq, if_neg (by omega)]
  rw [e1]
  funext i j
  unfold adm
  by_cases h : i = q ∧ j < n + 1
  · obtain ⟨rfl, h2⟩ := h
    rw [if_pos ⟨rfl, h2⟩]
    unfold elR
    rw [if_pos (by omega), if_neg hq, if_neg (by omega), if_pos (by omega), if_pos rfl, if_pos (by omega), if_neg hq, if_pos (by omega)]
  · rw [if_neg h]
    unfold elR
    by_cases h1 : j ≤ n
    · rw [if_pos h1, if_pos h1]
      by_cases h2 : i = t
      · rw [if_pos h2, if_pos h2]
      · rw [if_neg h2, if_neg h2]
        by_cases h3 : i < q
        · rw [if_pos h3, if_pos (by omega)]
        · rw [if_neg h3, if_neg (fun z => h ⟨by omega, by omega⟩)]
    · rw [if_neg h1, if_neg h1]
def pI : Nat → Int32
  | 0 => -1
  | n + 1 => nI n
theorem pI_sub (n : Nat) : nI n - nI 1 = pI n := by
  cases n with
  | zero => decide
  | succ n => exact nI_pred n
theorem pI_m1 (n : Nat) : nI n + Int32.ofInt (-1) = pI n := by
  rw [← pI_sub]
  show nI n + (-1) = nI n - nI 1
  rw [Int32.sub_eq_add_neg]
  rfl
theorem iwX0_write_X2 : ∀ w ∈ wsX20, w ∈ wsX0_write := by decide +kernel
theorem iwX0_write_X0 : ∀ w ∈ wsX00, w ∈ wsX0_write := by decide +kernel
set_option maxHeartbeats 4000000 in
set_option maxRecDepth 100000 in
theorem c_X0_write (l : Launch) (D : va_G) (cI cZ cQ cL : ClassId) (a0 : Nat) (a1 : Nat) (ra : Nat → Nat) (b0 : Nat) (b1 : Nat) (b2 : Nat) (pn : Nat) (pp : Nat → B8) (pv : Nat → B8) (n : Nat) (em : Nat → Nat → B8) (sz : Nat) (hn : pn ≤ 8) : Met l yX0_write wsX0_write ({ frames := 1, cells := 0, slots := 0, locals := 24 } : Room) (PW D (TY cI cZ cQ cL) (wEP cI cQ (a0) (a1) (ra) (b0) (b1) (b2) (pn) (pp) (pv) (n) (em)) sz [.ref (a0), .ref (b0)]) (QV D (va_A (wEP cI cQ (a0) (a1) (ra) (b0) (b1) (b2) (pn) (pp) (pv) (n) (em)) sz) (fun (_ : Unit) => True) (fun _ => (wEP cI cQ (a0) (a1) (ra) (b0) (b1) (b2) (pn) (pp) (pv) (pn) (wrR pn pp pv em pn)))) 0 0 (va_A (wEP cI cQ (a0) (a1) (ra) (b0) (b1) (b2) (pn) (pp) (pv) (n) (em)) sz) := by
  refine Met.ofW (cc := cX0_write) (maxL := 5) (ret := none) (by decide) rfl ?_
  intro p e s m args below meth c s₁ B hml hv
  obtain ⟨rfl, hsz, hP, hK, hD0, hN⟩ := hv
  have hx := B.exec
  have hb := B.bytes
  have hr := B.returns
  have hts := atoms_spec (ws := wsX0_write) B.pre
  have hown : s.vm.findClass RX0 = some m.cls := findClass_of_methodNamed B.named
  have hlocks := B.notSynchronized
  subst hsz
  have hD := hD0.self (sz := s.heap.size)
  generalize hAe : va_A (wEP cI cQ (a0) (a1) (ra) (b0) (b1) (b2) (pn) (pp) (pv) (n) (em)) s.heap.size = A at hD ⊢
  have hA : ∀ q : Nat, s.heap.size ≤ q → A q := fun q h => by rw [← hAe]; exact Or.inr h
  have hS : va_S A s.heap s.heap [] := va_S.rf
  have hl := lv_entry ([.ref (a0), .ref (b0)]) (n := 5) (Nat.le_of_ble_eq_true rfl)
  rw [lg_entry_eq]
  generalize (lg_sl ([.ref (a0), .ref (b0)]) ++ List.replicate (5 - (lg_sl ([.ref (a0), .ref (b0)])).length) Slot.unset).toArray = ls at hl ⊢
  have hl : lv_has ls 5 [(0, .ref (a0)), (1, .ref (b0))] := hl
  refine lv_aload_n hx hb dX0_write_0 rfl (lv_at hl 0 rfl) ?_
  refine lv_aload_n hx hb dX0_write_1 rfl (lv_at hl 1 rfl) ?_
  refine va_getN (D := D) (ci := 1) (v := .int (nI (pn))) (C := RX2) (T := TX2) (N := 3) (host := "RepairSender") hx hb hts iwX0_write_X2 hown hK hP 0 rfl rfl 2 (by decide) (va_Nw.use rfl (hN _ (List.mem_of_getElem? (i := 4) rfl))) (fun _ h9 => h9) rfl dX0_write_2 ?_
  refine va_put (D := D) (ci := 0) (v := .int (nI (pn))) (ty := .int) (C := RX0) (T := TX0) (N := 2) hx hb hts iwX0_write_X0 tyX0 tyX0_ok nmX0 hown hK hP hD hS 3 rfl rfl 1 (by decide) (hts (.fieldLink RX0 22 "RepairSender$Equations" "count" "I") (List.mem_of_getElem? (i := 1) rfl)) (fun _ h9 => h9) rfl (by decide +kernel) rfl rfl (Nat.le_of_ble_eq_true rfl) dX0_write_5 (fun H locs hP hD hS => ?_)
  have hP : va_P D vwCl (wEP cI cQ (a0) (a1) (ra) (b0) (b1) (b2) (pn) (pp) (pv) (pn) (em)) H := hP
  have hD : va_D A (wEP cI cQ (a0) (a1) (ra) (b0) (b1) (b2) (pn) (pp) (pv) (pn) (em)) := hD
  refine lv_iconst (v := nI (0)) hx hb dX0_write_8 (by decide) ?_
  refine lv_istore_n (lv' := [(2, .int (nI (0))), (0, .ref (a0)), (1, .ref (b0))]) hx hb dX0_write_9 rfl hl (by decide) rfl (fun ls hl => ?_)
  have L10_1 : ∀ (n10_1 : Nat) (r : Nat), pn - r < n10_1 → (r ≤ pn) → ∀ (H : Heap) (locs : List Loc), va_P D vwCl (wEP cI cQ (a0) (a1) (ra) (b0) (b1) (b2) (pn) (pp) (pv) (pn) (wrR pn pp pv em r)) H → va_D A (wEP cI cQ (a0) (a1) (ra) (b0) (b1) (b2) (pn) (pp) (pv) (pn) (wrR pn pp pv em r)) → va_S A s.heap H locs → ∀ (ls : Array Slot), lv_has ls 5 [(0, .ref (a0)), (1, .ref (b0)), (2, .int (nI (r)))] → W p l e (headSpec wsX0_write ({ frames := 1, cells := 0, slots := 0, locals := 24 } : Room)).room s m ([.ref (a0), .ref (b0)] : List Value).toArray below meth c H locs 0 0 (MQ below (QV D A (fun (_ : Unit) => True) (fun _ => (wEP cI cQ (a0) (a1) (ra) (b0) (b1) (b2) (pn) (pp) (pv) (pn) (wrR pn pp pv em pn)))) ([.ref (a0), .ref (b0)] : List Value).toArray s 0 0 A) (F0 m 10 ls []) := by
    intro n10_1
    induction n10_1 with
    | zero =>
      intro r hn10_1
      exact absurd hn10_1 (Nat.not_lt_zero _)
    | succ n10_1 ih10_1 =>
      intro r hn10_1 hr1 H locs hP hD hS ls hl
      refine lv_iload_n hx hb dX0_write_10 rfl (lv_at hl 2 rfl) ?_
      refine lv_aload_n hx hb dX0_write_11 rfl (lv_at hl 0 rfl) ?_
      refine va_get (D := D) (ci := 0) (v := .int (nI (pn))) (C := RX0) (T := TX0) (N := 2) hx hb hts iwX0_write_X0 hown hK hP 3 rfl rfl 1 (by decide) (hts (.fieldLink RX0 22 "RepairSender$Equations" "count" "I") (List.mem_of_getElem? (i := 1) rfl)) (fun _ h9 => h9) rfl dX0_write_12 ?_
      refine q_icmp_ge (u := ((r : Nat) : Int)) (v := ((pn : Nat) : Int)) (tgt := 82) hx hb dX0_write_15 (by decide) (nI_toInt (by omega)) (nI_toInt (by omega)) (fun c_15 => ?_) (fun c_15 => ?_)
      · obtain rfl : pn = r := by omega
        have hP : va_P D vwCl (wEP cI cQ (a0) (a1) (ra) (b0) (b1) (b2) (pn) (pp) (pv) (pn) (wrR pn pp pv em pn)) H := hP
        have hD : va_D A (wEP cI cQ (a0) (a1) (ra) (b0) (b1) (b2) (pn) (pp) (pv) (pn) (wrR pn pp pv em pn)) := hD
        exact W.vret hx hb hr (fun t ht hW => ⟨⟨(), rfl, trivial, by rw [ht]; exact hP, hD⟩, hS.F ht⟩) hS.2.2 dX0_write_82
      · skip
        refine lv_iconst (v := nI (1)) hx hb dX0_write_18 (by decide) ?_
        refine q_top (show nI (1) = bI (1) from rfl) ?_
        refine lv_istore_n (lv' := [(3, .int (bI (1))), (0, .ref (a0)), (1, .ref (b0)), (2, .int (nI (r)))]) hx hb dX0_write_19 rfl hl (by decide) rfl (fun ls hl => ?_)
        refine lv_iconst (v := nI (0)) hx hb dX0_write_20 (by decide) ?_
        refine lv_istore (lv' := [(4, .int (nI (0))), (3, .int (bI (1))), (0, .ref (a0)), (1, .ref (b0)), (2, .int (nI (r)))]) hx hb dX0_write_21 hl (by decide) rfl (fun ls hl => ?_)
        have L23_3 : ∀ (n23_3 : Nat) (j : Nat), pn - j < n23_3 → (j ≤ pn) → ∀ (H : Heap) (locs : List Loc), va_P D vwCl (wEP cI cQ (a0) (a1) (ra) (b0) (b1) (b2) (pn) (pp) (pv) (pn) (wrC pn pp pv em r j)) H → va_D A (wEP cI cQ (a0) (a1) (ra) (b0) (b1) (b2) (pn) (pp) (pv) (pn) (wrC pn pp pv em r j)) → va_S A s.heap H locs → ∀ (ls : Array Slot), lv_has ls 5 [(0, .ref (a0)), (1, .ref (b0)), (2, .int (nI (r))), (3, .int (bI (fpw (pp r) j))), (4, .int (nI (j)))] → W p l e (headSpec wsX0_write ({ frames := 1, cells := 0, slots := 0, locals := 24 } : Room)).room s m ([.ref (a0), .ref (b0)] : List Value).toArray below meth c H locs 0 0 (MQ below (QV D A (fun (_ : Unit) => True) (fun _ => (wEP cI cQ (a0) (a1) (ra) (b0) (b1) (b2) (pn) (pp) (pv) (pn) (wrR pn pp pv em pn)))) ([.ref (a0), .ref (b0)] : List Value).toArray s 0 0 A) (F0 m 23 ls []) := by
          intro n23_3
          induction n23_3 with
          | zero =>
            intro j hn23_3
            exact absurd hn23_3 (Nat.not_lt_zero _)
          | succ n23_3 ih23_3 =>
            intro j hn23_3 hj H locs hP hD hS ls hl
            refine lv_iload hx hb dX0_write_23 (lv_at hl 4 rfl) ?_
            refine lv_aload_n hx hb dX0_write_25 rfl (lv_at hl 0 rfl) ?_
            refine va_get (D := D) (ci := 0) (v := .int (nI (pn))) (C := RX0) (T := TX0) (N := 2) hx hb hts iwX0_write_X0 hown hK hP 3 rfl rfl 1 (by decide) (hts (.fieldLink RX0 22 "RepairSender$Equations" "count" "I") (List.mem_of_getElem? (i := 1) rfl)) (fun _ h9 => h9) rfl dX0_write_26 ?_
            refine q_icmp_ge (u := ((j : Nat) : Int)) (v := ((pn : Nat) : Int)) (tgt := 59) hx hb dX0_write_29 (by decide) (nI_toInt (by omega)) (nI_toInt (by omega)) (fun c_29 => ?_) (fun c_29 => ?_)
            · obtain rfl : pn = j := by omega
              refine lv_aload_n hx hb dX0_write_59 rfl (lv_at hl 0 rfl) ?_
              refine va_get (D := D) (ci := 0) (v := .ref (a1)) (C := RX0) (T := TX0) (N := 2) hx hb hts iwX0_write_X0 hown hK hP 3 rfl rfl 0 (by decide) (hts (.fieldLink RX0 11 "RepairSender$Equations" "cells" "[[I") (List.mem_of_getElem? (i := 2) rfl)) (fun _ h9 => h9) rfl dX0_write_60 ?_
              refine lv_iload_n hx hb dX0_write_63 rfl (lv_at hl 2 rfl) ?_
              refine q_aald (b := ra r) (j := r) hx hb hK hP 4 2 rfl rfl (by omega) (by decide) (if_pos (by omega)) dX0_write_64 ?_
              refine lv_aload_n hx hb dX0_write_65 rfl (lv_at hl 0 rfl) ?_
              refine va_get (D := D) (ci := 0) (v := .int (nI (pn))) (C := RX0) (T := TX0) (N := 2) hx hb hts iwX0_write_X0 hown hK hP 3 rfl rfl 1 (by decide) (hts (.fieldLink RX0 22 "RepairSender$Equations" "count" "I") (List.mem_of_getElem? (i := 1) rfl)) (fun _ h9 => h9) rfl dX0_write_66 ?_
              refine lv_aload_n hx hb dX0_write_69 rfl (lv_at hl 1 rfl) ?_
              refine va_getN (D := D) (ci := 1) (v := .ref (b2)) (C := RX2) (T := TX2) (N := 3) (host := "RepairSender") hx hb hts iwX0_write_X2 hown hK hP 0 rfl rfl 1 (by decide) (va_Nw.use rfl (hN _ (List.mem_of_getElem? (i := 2) rfl))) (fun _ h9 => h9) rfl dX0_write_70 ?_
              refine lv_iload_n hx hb dX0_write_73 rfl (lv_at hl 2 rfl) ?_
              refine q_ialdB (f := pv) (j := r) hx hb hK hP 2 0 rfl rfl (by omega) (by decide) dX0_write_74 ?_
              refine q_iastB (f := (wrC pn pp pv em r pn) r) (j := pn) (y := pv r) hx hb hK hP hD hS (5 + r) 0 (eq_row (X := [_, _, _, _, _]) (by omega)) rfl (by omega) (by decide) dX0_write_75 (fun H locs hP hD hS => ?_)
              have eS : List.set (wEP cI cQ (a0) (a1) (ra) (b0) (b1) (b2) (pn) (pp) (pv) (pn) (wrC pn pp pv em r pn)) (5 + r) (ra r, .inl (cI, 9, .inl (bF (ub ((wrC pn pp pv em r pn) r) pn (pv r))))) = (wEP cI cQ (a0) (a1) (ra) (b0) (b1) (b2) (pn) (pp) (pv) (pn) (um (wrC pn pp pv em r pn) r (ub ((wrC pn pp pv em r pn) r) pn (pv r)))) := eq_set (X := [_, _, _, _, _]) (by omega)
              rw [eS] at hP hD
              clear eS
              have hP : va_P D vwCl (wEP cI cQ (a0) (a1) (ra) (b0) (b1) (b2) (pn) (pp) (pv) (pn) (um (wrC pn pp pv em r pn) r (ub ((wrC pn pp pv em r pn) r) pn (pv r)))) H := hP
              have hD : va_D A (wEP cI cQ (a0) (a1) (ra) (b0) (b1) (b2) (pn) (pp) (pv) (pn) (um (wrC pn pp pv em r pn) r (ub ((wrC pn pp pv em r pn) r) pn (pv r)))) := hD
              refine lv_iinc (v := nI (r + 1)) (lv' := [(2, .int (nI (r + 1))), (0, .ref (a0)), (1, .ref (b0)), (3, .int (bI (fpw (pp r) pn))), (4, .int (nI (pn)))]) hx hb dX0_write_76 hl (k := 2) rfl (show nI (r) + Int32.ofInt 1 = nI (r + 1) from nI_add (r) 1) (by decide) rfl (fun ls hl => ?_)
              refine lv_goto (tgt := 10) hx hb dX0_write_79 (by decide) ?_
              have eW : (wEP cI cQ (a0) (a1) (ra) (b0) (b1) (b2) (pn) (pp) (pv) (pn) (um (wrC pn pp pv em r pn) r (ub ((wrC pn pp pv em r pn) r) pn (pv r)))) = (wEP cI cQ (a0) (a1) (ra) (b0) (b1) (b2) (pn) (pp) (pv) (pn) (wrR pn pp pv em (r + 1))) := by rw [wrR_s]
              rw [eW] at hP hD
              clear eW
              exact ih10_1 (r + 1) (by omega) (by omega) _ _ hP hD hS ls (lv_sub hl [1, 2, 0] rfl)
            · skip
              refine lv_aload_n hx hb dX0_write_32 rfl (lv_at hl 0 rfl) ?_
              refine va_get (D := D) (ci := 0) (v := .ref (a1)) (C := RX0) (T := TX0) (N := 2) hx hb hts iwX0_write_X0 hown hK hP 3 rfl rfl 0 (by decide) (hts (.fieldLink RX0 11 "RepairSender$Equations" "cells" "[[I") (List.mem_of_getElem? (i := 2) rfl)) (fun _ h9 => h9) rfl dX0_write_33 ?_
              refine lv_iload_n hx hb dX0_write_36 rfl (lv_at hl 2 rfl) ?_
              refine q_aald (b := ra r) (j := r) hx hb hK hP 4 2 rfl rfl (by omega) (by decide) (if_pos (by omega)) dX0_write_37 ?_
              refine lv_iload hx hb dX0_write_38 (lv_at hl 4 rfl) ?_
              refine lv_iload_n hx hb dX0_write_40 rfl (lv_at hl 3 rfl) ?_
              refine q_iastB (f := (wrC pn pp pv em r j) r) (j := j) (y := fpw (pp r) j) hx hb hK hP hD hS (5 + r) 0 (eq_row (X := [_, _, _, _, _]) (by omega)) rfl (by omega) (by decide) dX0_write_41 (fun H locs hP hD hS => ?_)
              have eS : List.set (wEP cI cQ (a0) (a1) (ra) (b0) (b1) (b2) (pn) (pp) (pv) (pn) (wrC pn pp pv em r j)) (5 + r) (ra r, .inl (cI, 9, .inl (bF (ub ((wrC pn pp pv em r j) r) j (fpw (pp r) j))))) = (wEP cI cQ (a0) (a1) (ra) (b0) (b1) (b2) (pn) (pp) (pv) (pn) (um (wrC pn pp pv em r j) r (ub ((wrC pn pp pv em r j) r) j (fpw (pp r) j)))) := eq_set (X := [_, _, _, _, _]) (by omega)
              rw [eS] at hP hD
              clear eS
              have hP : va_P D vwCl (wEP cI cQ (a0) (a1) (ra) (b0) (b1) (b2) (pn) (pp) (pv) (pn) (um (wrC pn pp pv em r j) r (ub ((wrC pn pp pv em r j) r) j (fpw (pp r) j)))) H := hP
              have hD : va_D A (wEP cI cQ (a0) (a1) (ra) (b0) (b1) (b2) (pn) (pp) (pv) (pn) (um (wrC pn pp pv em r j) r (ub ((wrC pn pp pv em r j) r) j (fpw (pp r) j)))) := hD
              refine lv_iload_n hx hb dX0_write_42 rfl (lv_at hl 3 rfl) ?_
              refine lv_aload_n hx hb dX0_write_43 rfl (lv_at hl 1 rfl) ?_
              refine va_getN (D := D) (ci := 1) (v := .ref (b1)) (C := RX2) (T := TX2) (N := 3) (host := "RepairSender") hx hb hts iwX0_write_X2 hown hK hP 0 rfl rfl 0 (by decide) (va_Nw.use rfl (hN _ (List.mem_of_getElem? (i := 1) rfl))) (fun _ h9 => h9) rfl dX0_write_44 ?_
              refine lv_iload_n hx hb dX0_write_47 rfl (lv_at hl 2 rfl) ?_
              refine q_ialdB (f := pp) (j := r) hx hb hK hP 1 0 rfl rfl (by omega) (by decide) dX0_write_48 ?_
              refine q_csi (va_runSN (As := [.int (bI (fpw (pp r) j)), .int (bI (pp r))]) (rest := []) ⟨hx, hb, hml, hown, hts⟩ (c_X1_product l (fpw (pp r) j) (pp r) ) ⟨va_cnB 2 hts gX0_write_X1_product_n27 rfl rfl rfl (hN _ (List.mem_of_getElem? (i := 14) rfl)) (hts (.initialized RX1) (List.mem_of_getElem? (i := 4) rfl)) hd_X1_product ⟨Nat.le_of_ble_eq_true rfl, Nat.le_of_ble_eq_true rfl⟩, (hts (.static yX1_product) (List.mem_of_getElem? (i := 3) rfl)), trivial⟩ P0_s rfl rfl hl.1 rfl (lv_room (Nat.le_of_ble_eq_true rfl)) dX0_write_49 ⟨Nat.le_of_ble_eq_true rfl, Nat.le_of_ble_eq_true rfl⟩) (fun r_49 hr_49 => ?_)
              obtain rfl : r_49 = bI (fm (fpw (pp r) j) (pp r)) := hr_49
              refine lv_istore_n (lv' := [(3, .int (bI (fm (fpw (pp r) j) (pp r)))), (0, .ref (a0)), (1, .ref (b0)), (2, .int (nI (r))), (4, .int (nI (j)))]) hx hb dX0_write_52 rfl hl (by decide) rfl (fun ls hl => ?_)
              refine lv_iinc (v := nI (j + 1)) (lv' := [(4, .int (nI (j + 1))), (3, .int (bI (fm (fpw (pp r) j) (pp r)))), (0, .ref (a0)), (1, .ref (b0)), (2, .int (nI (r)))]) hx hb dX0_write_53 hl (k := 4) rfl (show nI (j) + Int32.ofInt 1 = nI (j + 1) from nI_add (j) 1) (by decide) rfl (fun ls hl => ?_)
              refine lv_goto (tgt := 23) hx hb dX0_write_56 (by decide) ?_
              have eW : (wEP cI cQ (a0) (a1) (ra) (b0) (b1) (b2) (pn) (pp) (pv) (pn) (um (wrC pn pp pv em r j) r (ub ((wrC pn pp pv em r j) r) j (fpw (pp r) j)))) = (wEP cI cQ (a0) (a1) (ra) (b0) (b1) (b2) (pn) (pp) (pv) (pn) (wrC pn pp pv em r (j + 1))) := by rw [wrC_s]
              rw [eW] at hP hD
              clear eW
              exact ih23_3 (j + 1) (by omega) (by omega) _ _ hP hD hS ls (lv_sub hl [2, 3, 4, 1, 0] rfl)
        have eW : (wEP cI cQ (a0) (a1) (ra) (b0) (b1) (b2) (pn) (pp) (pv) (pn) (wrR pn pp pv em r)) = (wEP cI cQ (a0) (a1) (ra) (b0) (b1) (b2) (pn) (pp) (pv) (pn) (wrC pn pp pv em r 0)) := by rw [wrC_0]
        rw [eW] at hP hD
        clear eW
        exact L23_3 _ (0) (Nat.lt_succ_self _) (by omega) _ _ hP hD hS ls (lv_sub hl [2, 3, 4, 1, 0] rfl)
  have eW : (wEP cI cQ (a0) (a1) (ra) (b0) (b1) (b2) (pn) (pp) (pv) (pn) (em)) = (wEP cI cQ (a0) (a1) (ra) (b0) (b1) (b2) (pn) (pp) (pv) (pn) (wrR pn pp pv em 0)) := by rw [wrR_0]
  rw [eW] at hP hD
  clear eW
  exact L10_1 _ (0) (Nat.lt_succ_self _) (by omega) _ _ hP hD hS ls (lv_sub hl [1, 2, 0] rfl)

theorem iwX0_scaleRow_X0 : ∀ w ∈ wsX00, w ∈ wsX0_scaleRow := by decide +kernel
set_option maxHeartbeats 4000000 in
set_option maxRecDepth 100000 in
theorem c_X0_scaleRow (l : Launch) (D : va_G) (cI cZ cQ cL : ClassId) (a0 : Nat) (a1 : Nat) (ra : Nat → Nat) (n : Nat) (em : Nat → Nat → B8) (r0 : Nat) (fa : B8) (sz : Nat) (hn : n ≤ 8) (hr0 : r0 < 8) : Met l yX0_scaleRow wsX0_scaleRow ({ frames := 1, cells := 0, slots := 0, locals := 24 } : Room) (PW D (TY cI cZ cQ cL) (wEq cI cQ (a0) (a1) (ra) (n) (em)) sz [.ref (a0), .int (nI (r0)), .int (bI (fa))]) (QV D (va_A (wEq cI cQ (a0) (a1) (ra) (n) (em)) sz) (fun (_ : Unit) => True) (fun _ => (wEq cI cQ (a0) (a1) (ra) (n) (scl em r0 fa (n + 1))))) 0 0 (va_A (wEq cI cQ (a0) (a1) (ra) (n) (em)) sz) := by
  refine Met.ofW (cc := cX0_scaleRow) (maxL := 4) (ret := none) (by decide) rfl ?_
  intro p e s m args below meth c s₁ B hml hv
  obtain ⟨rfl, hsz, hP, hK, hD0, hN⟩ := hv
  have hx := B.exec
  have hb := B.bytes
  have hr := B.returns
  have hts := atoms_spec (ws := wsX0_scaleRow) B.pre
  have hown : s.vm.findClass RX0 = some m.cls := findClass_of_methodNamed B.named
  have hlocks := B.notSynchronized
  subst hsz
  have hD := hD0.self (sz := s.heap.size)
  generalize hAe : va_A (wEq cI cQ (a0) (a1) (ra) (n) (em)) s.heap.size = A at hD ⊢
  have hA : ∀ q : Nat, s.heap.size ≤ q → A q := fun q h => by rw [← hAe]; exact Or.inr h
  have hS : va_S A s.heap s.heap [] := va_S.rf
  have hl := lv_entry ([.ref (a0), .int (nI (r0)), .int (bI (fa))]) (n := 4) (Nat.le_of_ble_eq_true rfl)
  rw [lg_entry_eq]
  generalize (lg_sl ([.ref (a0), .int (nI (r0)), .int (bI (fa))]) ++ List.replicate (4 - (lg_sl ([.ref (a0), .int (nI (r0)), .int (bI (fa))])).length) Slot.unset).toArray = ls at hl ⊢
  have hl : lv_has ls 4 [(0, .ref (a0)), (1, .int (nI (r0))), (2, .int (bI (fa)))] := hl
  refine lv_iconst (v := nI (0)) hx hb dX0_scaleRow_0 (by decide) ?_
  refine lv_istore_n (lv' := [(3, .int (nI (0))), (0, .ref (a0)), (1, .int (nI (r0))), (2, .int (bI (fa)))]) hx hb dX0_scaleRow_1 rfl hl (by decide) rfl (fun ls hl => ?_)
  have L2_1 : ∀ (n2_1 : Nat) (j : Nat), n + 1 - j < n2_1 → (j ≤ n + 1) → ∀ (H : Heap) (locs : List Loc), va_P D vwCl (wEq cI cQ (a0) (a1) (ra) (n) (scl em r0 fa j)) H → va_D A (wEq cI cQ (a0) (a1) (ra) (n) (scl em r0 fa j)) → va_S A s.heap H locs → ∀ (ls : Array Slot), lv_has ls 4 [(0, .ref (a0)), (1, .int (nI (r0))), (2, .int (bI (fa))), (3, .int (nI (j)))] → W p l e (headSpec wsX0_scaleRow ({ frames := 1, cells := 0, slots := 0, locals := 24 } : Room)).room s m ([.ref (a0), .int (nI (r0)), .int (bI (fa))] : List Value).toArray below meth c H locs 0 0 (MQ below (QV D A (fun (_ : Unit) => True) (fun _ => (wEq cI cQ (a0) (a1) (ra) (n) (scl em r0 fa (n + 1))))) ([.ref (a0), .int (nI (r0)), .int (bI (fa))] : List Value).toArray s 0 0 A) (F0 m 2 ls []) := by
    intro n2_1
    induction n2_1 with
    | zero =>
      intro j hn2_1
      exact absurd hn2_1 (Nat.not_lt_zero _)
    | succ n2_1 ih2_1 =>
      intro j hn2_1 hj H locs hP hD hS ls hl
      refine lv_iload_n hx hb dX0_scaleRow_2 rfl (lv_at hl 3 rfl) ?_
      refine lv_aload_n hx hb dX0_scaleRow_3 rfl (lv_at hl 0 rfl) ?_
      refine va_get (D := D) (ci := 0) (v := .int (nI (n))) (C := RX0) (T := TX0) (N := 2) hx hb hts iwX0_scaleRow_X0 hown hK hP 0 rfl rfl 1 (by decide) (hts (.fieldLink RX0 22 "RepairSender$Equations" "count" "I") (List.mem_of_getElem? (i := 1) rfl)) (fun _ h9 => h9) rfl dX0_scaleRow_4 ?_
      refine q_icmp_gt (u := ((j : Nat) : Int)) (v := ((n : Nat) : Int)) (tgt := 36) hx hb dX0_scaleRow_7 (by decide) (nI_toInt (by omega)) (nI_toInt (by omega)) (fun c_7 => ?_) (fun c_7 => ?_)
      · obtain rfl : n + 1 = j := by omega
        have hP : va_P D vwCl (wEq cI cQ (a0) (a1) (ra) (n) (scl em r0 fa (n + 1))) H := hP
        have hD : va_D A (wEq cI cQ (a0) (a1) (ra) (n) (scl em r0 fa (n + 1))) := hD
        exact W.vret hx hb hr (fun t ht hW => ⟨⟨(), rfl, trivial, by rw [ht]; exact hP, hD⟩, hS.F ht⟩) hS.2.2 dX0_scaleRow_36
      · skip
        refine lv_aload_n hx hb dX0_scaleRow_10 rfl (lv_at hl 0 rfl) ?_
        refine va_get (D := D) (ci := 0) (v := .ref (a1)) (C := RX0) (T := TX0) (N := 2) hx hb hts iwX0_scaleRow_X0 hown hK hP 0 rfl rfl 0 (by decide) (hts (.fieldLink RX0 11 "RepairSender$Equations" "cells" "[[I") (List.mem_of_getElem? (i := 2) rfl)) (fun _ h9 => h9) rfl dX0_scaleRow_11 ?_
        refine lv_iload_n hx hb dX0_scaleRow_14 rfl (lv_at hl 1 rfl) ?_
        refine q_aald (b := ra r0) (j := r0) hx hb hK hP 1 2 rfl rfl (by omega) (by decide) (if_pos (by omega)) dX0_scaleRow_15 ?_
        refine lv_iload_n hx hb dX0_scaleRow_16 rfl (lv_at hl 3 rfl) ?_
        refine lv_aload_n hx hb dX0_scaleRow_17 rfl (lv_at hl 0 rfl) ?_
        refine va_get (D := D) (ci := 0) (v := .ref (a1)) (C := RX0) (T := TX0) (N := 2) hx hb hts iwX0_scaleRow_X0 hown hK hP 0 rfl rfl 0 (by decide) (hts (.fieldLink RX0 11 "RepairSender$Equations" "cells" "[[I") (List.mem_of_getElem? (i := 2) rfl)) (fun _ h9 => h9) rfl dX0_scaleRow_18 ?_
        refine lv_iload_n hx hb dX0_scaleRow_21 rfl (lv_at hl 1 rfl) ?_
        refine q_aald (b := ra r0) (j := r0) hx hb hK hP 1 2 rfl rfl (by omega) (by decide) (if_pos (by omega)) dX0_scaleRow_22 ?_
        refine lv_iload_n hx hb dX0_scaleRow_23 rfl (lv_at hl 3 rfl) ?_
        refine q_ialdB (f := (scl em r0 fa j) r0) (j := j) hx hb hK hP (2 + r0) 0 (eq_row (X := [_, _]) (by omega)) rfl (by omega) (by decide) dX0_scaleRow_24 ?_
        refine lv_iload_n hx hb dX0_scaleRow_25 rfl (lv_at hl 2 rfl) ?_
        refine q_csi (va_runSN (As := [.int (bI ((scl em r0 fa j) r0 j)), .int (bI (fa))]) (rest := [.int (nI (j)), .ref (ra r0)]) ⟨hx, hb, hml, hown, hts⟩ (c_X1_product l (scl em r0 fa j r0 j) (fa) ) ⟨va_cnB 2 hts gX0_scaleRow_X1_product_n27 rfl rfl rfl (hN _ (List.mem_of_getElem? (i := 14) rfl)) (hts (.initialized RX1) (List.mem_of_getElem? (i := 4) rfl)) hd_X1_product ⟨Nat.le_of_ble_eq_true rfl, Nat.le_of_ble_eq_true rfl⟩, (hts (.static yX1_product) (List.mem_of_getElem? (i := 3) rfl)), trivial⟩ P0_s rfl rfl hl.1 rfl (lv_room (Nat.le_of_ble_eq_true rfl)) dX0_scaleRow_26 ⟨Nat.le_of_ble_eq_true rfl, Nat.le_of_ble_eq_true rfl⟩) (fun r_26 hr_26 => ?_)
        obtain rfl : r_26 = bI (fm (scl em r0 fa j r0 j) fa) := hr_26
        refine q_iastB (f := (scl em r0 fa j) r0) (j := j) (y := fm (scl em r0 fa j r0 j) fa) hx hb hK hP hD hS (2 + r0) 0 (eq_row (X := [_, _]) (by omega)) rfl (by omega) (by decide) dX0_scaleRow_29 (fun H locs hP hD hS => ?_)
        have eS : List.set (wEq cI cQ (a0) (a1) (ra) (n) (scl em r0 fa j)) (2 + r0) (ra r0, .inl (cI, 9, .inl (bF (ub ((scl em r0 fa j) r0) j (fm (scl em r0 fa j r0 j) fa))))) = (wEq cI cQ (a0) (a1) (ra) (n) (um (scl em r0 fa j) r0 (ub ((scl em r0 fa j) r0) j (fm (scl em r0 fa j r0 j) fa)))) := eq_set (X := [_, _]) (by omega)
        rw [eS] at hP hD
        clear eS
        have hP : va_P D vwCl (wEq cI cQ (a0) (a1) (ra) (n) (um (scl em r0 fa j) r0 (ub ((scl em r0 fa j) r0) j (fm (scl em r0 fa j r0 j) fa)))) H := hP
        have hD : va_D A (wEq cI cQ (a0) (a1) (ra) (n) (um (scl em r0 fa j) r0 (ub ((scl em r0 fa j) r0) j (fm (scl em r0 fa j r0 j) fa)))) := hD
        refine lv_iinc (v := nI (j + 1)) (lv' := [(3, .int (nI (j + 1))), (0, .ref (a0)), (1, .int (nI (r0))), (2, .int (bI (fa)))]) hx hb dX0_scaleRow_30 hl (k := 3) rfl (show nI (j) + Int32.ofInt 1 = nI (j + 1) from nI_add (j) 1) (by decide) rfl (fun ls hl => ?_)
        refine lv_goto (tgt := 2) hx hb dX0_scaleRow_33 (by decide) ?_
        have eW : (wEq cI cQ (a0) (a1) (ra) (n) (um (scl em r0 fa j) r0 (ub ((scl em r0 fa j) r0) j (fm (scl em r0 fa j r0 j) fa)))) = (wEq cI cQ (a0) (a1) (ra) (n) (scl em r0 fa (j + 1))) := by rw [scl_s]
        rw [eW] at hP hD
        clear eW
        exact ih2_1 (j + 1) (by omega) (by omega) _ _ hP hD hS ls (lv_sub hl [1, 2, 3, 0] rfl)
  have eW : (wEq cI cQ (a0) (a1) (ra) (n) (em)) = (wEq cI cQ (a0) (a1) (ra) (n) (scl em r0 fa 0)) := by rw [scl_0]
  rw [eW] at hP hD
  clear eW
  exact L2_1 _ (0) (Nat.lt_succ_self _) (by omega) _ _ hP hD hS ls (lv_sub hl [1, 2, 3, 0] rfl)

theorem iwX0_addMultiple_X0 : ∀ w ∈ wsX00, w ∈ wsX0_addMultiple := by decide +kernel
set_option maxHeartbeats 4000000 in
set_option maxRecDepth 100000 in
theorem c_X0_addMultiple (l : Launch) (D : va_G) (cI cZ cQ cL : ClassId) (a0 : Nat) (a1 : Nat) (ra : Nat → Nat) (n : Nat) (em : Nat → Nat → B8) (r0 : Nat) (r1 : Nat) (fa : B8) (sz : Nat) (hn : n ≤ 8) (hr0 : r0 < 8) (hr1 : r1 < 8) (hne : r0 ≠ r1) : Met l yX0_addMultiple wsX0_addMultiple ({ frames := 1, cells := 0, slots := 0, locals := 24 } : Room) (PW D (TY cI cZ cQ cL) (wEq cI cQ (a0) (a1) (ra) (n) (em)) sz [.ref (a0), .int (nI (r0)), .int (nI (r1)), .int (bI (fa))]) (QV D (va_A (wEq cI cQ (a0) (a1) (ra) (n) (em)) sz) (fun (_ : Unit) => True) (fun _ => (wEq cI cQ (a0) (a1) (ra) (n) (adm em r0 r1 fa (n + 1))))) 0 0 (va_A (wEq cI cQ (a0) (a1) (ra) (n) (em)) sz) := by
  refine Met.ofW (cc := cX0_addMultiple) (maxL := 5) (ret := none) (by decide) rfl ?_
  intro p e s m args below meth c s₁ B hml hv
  obtain ⟨rfl, hsz, hP, hK, hD0, hN⟩ := hv
  have hx := B.exec
  have hb := B.bytes
  have hr := B.returns
  have hts := atoms_spec (ws := wsX0_addMultiple) B.pre
  have hown : s.vm.findClass RX0 = some m.cls := findClass_of_methodNamed B.named
  have hlocks := B.notSynchronized
  subst hsz
  have hD := hD0.self (sz := s.heap.size)
  generalize hAe : va_A (wEq cI cQ (a0) (a1) (ra) (n) (em)) s.heap.size = A at hD ⊢
  have hA : ∀ q : Nat, s.heap.size ≤ q → A q := fun q h => by rw [← hAe]; exact Or.inr h
  have hS : va_S A s.heap s.heap [] := va_S.rf
  have hl := lv_entry ([.ref (a0), .int (nI (r0)), .int (nI (r1)), .int (bI (fa))]) (n := 5) (Nat.le_of_ble_eq_true rfl)
  rw [lg_entry_eq]
  generalize (lg_sl ([.ref (a0), .int (nI (r0)), .int (nI (r1)), .int (bI (fa))]) ++ List.replicate (5 - (lg_sl ([.ref (a0), .int (nI (r0)), .int (nI (r1)), .int (bI (fa))])).length) Slot.unset).toArray = ls at hl ⊢
  have hl : lv_has ls 5 [(0, .ref (a0)), (1, .int (nI (r0))), (2, .int (nI (r1))), (3, .int (bI (fa)))] := hl
  refine lv_iconst (v := nI (0)) hx hb dX0_addMultiple_0 (by decide) ?_
  refine lv_istore (lv' := [(4, .int (nI (0))), (0, .ref (a0)), (1, .int (nI (r0))), (2, .int (nI (r1))), (3, .int (bI (fa)))]) hx hb dX0_addMultiple_1 hl (by decide) rfl (fun ls hl => ?_)
  have L3_1 : ∀ (n3_1 : Nat) (j : Nat), n + 1 - j < n3_1 → (j ≤ n + 1) → ∀ (H : Heap) (locs : List Loc), va_P D vwCl (wEq cI cQ (a0) (a1) (ra) (n) (adm em r0 r1 fa j)) H → va_D A (wEq cI cQ (a0) (a1) (ra) (n) (adm em r0 r1 fa j)) → va_S A s.heap H locs → ∀ (ls : Array Slot), lv_has ls 5 [(0, .ref (a0)), (1, .int (nI (r0))), (2, .int (nI (r1))), (3, .int (bI (fa))), (4, .int (nI (j)))] → W p l e (headSpec wsX0_addMultiple ({ frames := 1, cells := 0, slots := 0, locals := 24 } : Room)).room s m ([.ref (a0), .int (nI (r0)), .int (nI (r1)), .int (bI (fa))] : List Value).toArray below meth c H locs 0 0 (MQ below (QV D A (fun (_ : Unit) => True) (fun _ => (wEq cI cQ (a0) (a1) (ra) (n) (adm em r0 r1 fa (n + 1))))) ([.ref (a0), .int (nI (r0)), .int (nI (r1)), .int (bI (fa))] : List Value).toArray s 0 0 A) (F0 m 3 ls []) := by
    intro n3_1
    induction n3_1 with
    | zero =>
      intro j hn3_1
      exact absurd hn3_1 (Nat.not_lt_zero _)
    | succ n3_1 ih3_1 =>
      intro j hn3_1 hj H locs hP hD hS ls hl
      refine lv_iload hx hb dX0_addMultiple_3 (lv_at hl 4 rfl) ?_
      refine lv_aload_n hx hb dX0_addMultiple_5 rfl (lv_at hl 0 rfl) ?_
      refine va_get (D := D) (ci := 0) (v := .int (nI (n))) (C := RX0) (T := TX0) (N := 2) hx hb hts iwX0_addMultiple_X0 hown hK hP 0 rfl rfl 1 (by decide) (hts (.fieldLink RX0 22 "RepairSender$Equations" "count" "I") (List.mem_of_getElem? (i := 1) rfl)) (fun _ h9 => h9) rfl dX0_addMultiple_6 ?_
      refine q_icmp_gt (u := ((j : Nat) : Int)) (v := ((n : Nat) : Int)) (tgt := 43) hx hb dX0_addMultiple_9 (by decide) (nI_toInt (by omega)) (nI_toInt (by omega)) (fun c_9 => ?_) (fun c_9 => ?_)
      · obtain rfl : n + 1 = j := by omega
        have hP : va_P D vwCl (wEq cI cQ (a0) (a1) (ra) (n) (adm em r0 r1 fa (n + 1))) H := hP
        have hD : va_D A (wEq cI cQ (a0) (a1) (ra) (n) (adm em r0 r1 fa (n + 1))) := hD
        exact W.vret hx hb hr (fun t ht hW => ⟨⟨(), rfl, trivial, by rw [ht]; exact hP, hD⟩, hS.F ht⟩) hS.2.2 dX0_addMultiple_43
      · skip
        refine lv_aload_n hx hb dX0_addMultiple_12 rfl (lv_at hl 0 rfl) ?_
        refine va_get (D := D) (ci := 0) (v := .ref (a1)) (C := RX0) (T := TX0) (N := 2) hx hb hts iwX0_addMultiple_X0 hown hK hP 0 rfl rfl 0 (by decide) (hts (.fieldLink RX0 11 "RepairSender$Equations" "cells" "[[I") (List.mem_of_getElem? (i := 2) rfl)) (fun _ h9 => h9) rfl dX0_addMultiple_13 ?_
        refine lv_iload_n hx hb dX0_addMultiple_16 rfl (lv_at hl 1 rfl) ?_
        refine q_aald (b := ra r0) (j := r0) hx hb hK hP 1 2 rfl rfl (by omega) (by decide) (if_pos (by omega)) dX0_addMultiple_17 ?_
        refine lv_iload hx hb dX0_addMultiple_18 (lv_at hl 4 rfl) ?_
        refine lv_dup2_11 hx hb dX0_addMultiple_20 rfl rfl ?_
        refine q_ialdB (f := (adm em r0 r1 fa j) r0) (j := j) hx hb hK hP (2 + r0) 0 (eq_row (X := [_, _]) (by omega)) rfl (by omega) (by decide) dX0_addMultiple_21 ?_
        refine lv_aload_n hx hb dX0_addMultiple_22 rfl (lv_at hl 0 rfl) ?_
        refine va_get (D := D) (ci := 0) (v := .ref (a1)) (C := RX0) (T := TX0) (N := 2) hx hb hts iwX0_addMultiple_X0 hown hK hP 0 rfl rfl 0 (by decide) (hts (.fieldLink RX0 11 "RepairSender$Equations" "cells" "[[I") (List.mem_of_getElem? (i := 2) rfl)) (fun _ h9 => h9) rfl dX0_addMultiple_23 ?_
        refine lv_iload_n hx hb dX0_addMultiple_26 rfl (lv_at hl 2 rfl) ?_
        refine q_aald (b := ra r1) (j := r1) hx hb hK hP 1 2 rfl rfl (by omega) (by decide) (if_pos (by omega)) dX0_addMultiple_27 ?_
        refine lv_iload hx hb dX0_addMultiple_28 (lv_at hl 4 rfl) ?_
        refine q_ialdB (f := (adm em r0 r1 fa j) r1) (j := j) hx hb hK hP (2 + r1) 0 (eq_row (X := [_, _]) (by omega)) rfl (by omega) (by decide) dX0_addMultiple_30 ?_
        refine lv_iload_n hx hb dX0_addMultiple_31 rfl (lv_at hl 3 rfl) ?_
        refine q_csi (va_runSN (As := [.int (bI ((adm em r0 r1 fa j) r1 j)), .int (bI (fa))]) (rest := [.int (bI ((adm em r0 r1 fa j) r0 j)), .int (nI (j)), .ref (ra r0)]) ⟨hx, hb, hml, hown, hts⟩ (c_X1_product l (adm em r0 r1 fa j r1 j) (fa) ) ⟨va_cnB 2 hts gX0_addMultiple_X1_product_n27 rfl rfl rfl (hN _ (List.mem_of_getElem? (i := 14) rfl)) (hts (.initialized RX1) (List.mem_of_getElem? (i := 4) rfl)) hd_X1_product ⟨Nat.le_of_ble_eq_true rfl, Nat.le_of_ble_eq_true rfl⟩, (hts (.static yX1_product) (List.mem_of_getElem? (i := 3) rfl)), trivial⟩ P0_s rfl rfl hl.1 rfl (lv_room (Nat.le_of_ble_eq_true rfl)) dX0_addMultiple_32 ⟨Nat.le_of_ble_eq_true rfl, Nat.le_of_ble_eq_true rfl⟩) (fun r_32 hr_32 => ?_)
        obtain rfl : r_32 = bI (fm (adm em r0 r1 fa j r1 j) fa) := hr_32
        refine lv_ixor hx hb dX0_addMultiple_35 ?_
        refine q_top (show (bI ((adm em r0 r1 fa j) r0 j) ^^^ bI (fm (adm em r0 r1 fa j r1 j) fa)) = bI (((adm em r0 r1 fa j) r0 j) ^^^ (fm (adm em r0 r1 fa j r1 j) fa)) from bI_xor _ _) ?_
        refine q_iastB (f := (adm em r0 r1 fa j) r0) (j := j) (y := ((adm em r0 r1 fa j) r0 j) ^^^ (fm (adm em r0 r1 fa j r1 j) fa)) hx hb hK hP hD hS (2 + r0) 0 (eq_row (X := [_, _]) (by omega)) rfl (by omega) (by decide) dX0_addMultiple_36 (fun H locs hP hD hS => ?_)
        have eS : List.set (wEq cI cQ (a0) (a1) (ra) (n) (adm em r0 r1 fa j)) (2 + r0) (ra r0, .inl (cI, 9, .inl (bF (ub ((adm em r0 r1 fa j) r0) j (((adm em r0 r1 fa j) r0 j) ^^^ (fm (adm em r0 r1 fa j r1 j) fa)))))) = (wEq cI cQ (a0) (a1) (ra) (n) (um (adm em r0 r1 fa j) r0 (ub ((adm em r0 r1 fa j) r0) j (((adm em r0 r1 fa j) r0 j) ^^^ (fm (adm em r0 r1 fa j r1 j) fa))))) := eq_set (X := [_, _]) (by omega)
        rw [eS] at hP hD
        clear eS
        have hP : va_P D vwCl (wEq cI cQ (a0) (a1) (ra) (n) (um (adm em r0 r1 fa j) r0 (ub ((adm em r0 r1 fa j) r0) j (((adm em r0 r1 fa j) r0 j) ^^^ (fm (adm em r0 r1 fa j r1 j) fa))))) H := hP
        have hD : va_D A (wEq cI cQ (a0) (a1) (ra) (n) (um (adm em r0 r1 fa j) r0 (ub ((adm em r0 r1 fa j) r0) j (((adm em r0 r1 fa j) r0 j) ^^^ (fm (adm em r0 r1 fa j r1 j) fa))))) := hD
        refine lv_iinc (v := nI (j + 1)) (lv' := [(4, .int (nI (j + 1))), (0, .ref (a0)), (1, .int (nI (r0))), (2, .int (nI (r1))), (3, .int (bI (fa)))]) hx hb dX0_addMultiple_37 hl (k := 4) rfl (show nI (j) + Int32.ofInt 1 = nI (j + 1) from nI_add (j) 1) (by decide) rfl (fun ls hl => ?_)
        refine lv_goto (tgt := 3) hx hb dX0_addMultiple_40 (by decide) ?_
        have eW : (wEq cI cQ (a0) (a1) (ra) (n) (um (adm em r0 r1 fa j) r0 (ub ((adm em r0 r1 fa j) r0) j (((adm em r0 r1 fa j) r0 j) ^^^ (fm (adm em r0 r1 fa j r1 j) fa))))) = (wEq cI cQ (a0) (a1) (ra) (n) (adm em r0 r1 fa (j + 1))) := by rw [adm_s _ hne]
        rw [eW] at hP hD
        clear eW
        exact ih3_1 (j + 1) (by omega) (by omega) _ _ hP hD hS ls (lv_sub hl [1, 2, 3, 4, 0] rfl)
  have eW : (wEq cI cQ (a0) (a1) (ra) (n) (em)) = (wEq cI cQ (a0) (a1) (ra) (n) (adm em r0 r1 fa 0)) := by rw [adm_0]
  rw [eW] at hP hD
  clear eW
  exact L3_1 _ (0) (Nat.lt_succ_self _) (by omega) _ _ hP hD hS ls (lv_sub hl [1, 2, 3, 4, 0] rfl)

theorem iwX0_solve_X0 : ∀ w ∈ wsX00, w ∈ wsX0_solve := by decide +kernel
set_option maxHeartbeats 4000000 in
set_option maxRecDepth 100000 in
theorem c_X0_solve (l : Launch) (D : va_G) (cI cZ cQ cL : ClassId) (a0 : Nat) (a1 : Nat) (ra : Nat → Nat) (n : Nat) (em : Nat → Nat → B8) (sz : Nat) (hn : n ≤ 8) : Met l yX0_solve wsX0_solve ({ frames := 2, cells := 0, slots := 0, locals := 48 } : Room) (PW D (TY cI cZ cQ cL) (wEq cI cQ (a0) (a1) (ra) (n) (em)) sz [.ref (a0)]) (QV D (va_A (wEq cI cQ (a0) (a1) (ra) (n) (em)) sz) (fun (_ : Unit) => True) (fun _ => (wEq cI cQ (a0) (a1) (ra) (n) (elN n em n)))) 0 0 (va_A (wEq cI cQ (a0) (a1) (ra) (n) (em)) sz) := by
  refine Met.ofW (cc := cX0_solve) (maxL := 3) (ret := none) (by decide) rfl ?_
  intro p e s m args below meth c s₁ B hml hv
  obtain ⟨rfl, hsz, hP, hK, hD0, hN⟩ := hv
  have hx := B.exec
  have hb := B.bytes
  have hr := B.returns
  have hts := atoms_spec (ws := wsX0_solve) B.pre
  have hown : s.vm.findClass RX0 = some m.cls := findClass_of_methodNamed B.named
  have hlocks := B.notSynchronized
  subst hsz
  have hD := hD0.self (sz := s.heap.size)
  generalize hAe : va_A (wEq cI cQ (a0) (a1) (ra) (n) (em)) s.heap.size = A at hD ⊢
  have hA : ∀ q : Nat, s.heap.size ≤ q → A q := fun q h => by rw [← hAe]; exact Or.inr h
  have hS : va_S A s.heap s.heap [] := va_S.rf
  have hl := lv_entry ([.ref (a0)]) (n := 3) (Nat.le_of_ble_eq_true rfl)
  rw [lg_entry_eq]
  generalize (lg_sl ([.ref (a0)]) ++ List.replicate (3 - (lg_sl ([.ref (a0)])).length) Slot.unset).toArray = ls at hl ⊢
  have hl : lv_has ls 3 [(0, .ref (a0))] := hl
  refine lv_iconst (v := nI (0)) hx hb dX0_solve_0 (by decide) ?_
  refine lv_istore_n (lv' := [(1, .int (nI (0))), (0, .ref (a0))]) hx hb dX0_solve_1 rfl hl (by decide) rfl (fun ls hl => ?_)
  have L2_1 : ∀ (n2_1 : Nat) (t : Nat), n - t < n2_1 → (t ≤ n) → ∀ (H : Heap) (locs : List Loc), va_P D vwCl (wEq cI cQ (a0) (a1) (ra) (n) (elN n em t)) H → va_D A (wEq cI cQ (a0) (a1) (ra) (n) (elN n em t)) → va_S A s.heap H locs → ∀ (ls : Array Slot), lv_has ls 3 [(0, .ref (a0)), (1, .int (nI (t)))] → W p l e (headSpec wsX0_solve ({ frames := 2, cells := 0, slots := 0, locals := 48 } : Room)).room s m ([.ref (a0)] : List Value).toArray below meth c H locs 0 0 (MQ below (QV D A (fun (_ : Unit) => True) (fun _ => (wEq cI cQ (a0) (a1) (ra) (n) (elN n em n)))) ([.ref (a0)] : List Value).toArray s 0 0 A) (F0 m 2 ls []) := by
    intro n2_1
    induction n2_1 with
    | zero =>
      intro t hn2_1
      exact absurd hn2_1 (Nat.not_lt_zero _)
    | succ n2_1 ih2_1 =>
      intro t hn2_1 ht H locs hP hD hS ls hl
      refine lv_iload_n hx hb dX0_solve_2 rfl (lv_at hl 1 rfl) ?_
      refine lv_aload_n hx hb dX0_solve_3 rfl (lv_at hl 0 rfl) ?_
      refine va_get (D := D) (ci := 0) (v := .int (nI (n))) (C := RX0) (T := TX0) (N := 2) hx hb hts iwX0_solve_X0 hown hK hP 0 rfl rfl 1 (by decide) (hts (.fieldLink RX0 22 "RepairSender$Equations" "count" "I") (List.mem_of_getElem? (i := 1) rfl)) (fun _ h9 => h9) rfl dX0_solve_4 ?_
      refine q_icmp_ge (u := ((t : Nat) : Int)) (v := ((n : Nat) : Int)) (tgt := 67) hx hb dX0_solve_7 (by decide) (nI_toInt (by omega)) (nI_toInt (by omega)) (fun c_7 => ?_) (fun c_7 => ?_)
      · obtain rfl : n = t := by omega
        have hP : va_P D vwCl (wEq cI cQ (a0) (a1) (ra) (n) (elN n em n)) H := hP
        have hD : va_D A (wEq cI cQ (a0) (a1) (ra) (n) (elN n em n)) := hD
        exact W.vret hx hb hr (fun t ht hW => ⟨⟨(), rfl, trivial, by rw [ht]; exact hP, hD⟩, hS.F ht⟩) hS.2.2 dX0_solve_67
      · skip
        refine lv_aload_n hx hb dX0_solve_10 rfl (lv_at hl 0 rfl) ?_
        refine lv_iload_n hx hb dX0_solve_11 rfl (lv_at hl 1 rfl) ?_
        refine lv_aload_n hx hb dX0_solve_12 rfl (lv_at hl 0 rfl) ?_
        refine va_get (D := D) (ci := 0) (v := .ref (a1)) (C := RX0) (T := TX0) (N := 2) hx hb hts iwX0_solve_X0 hown hK hP 0 rfl rfl 0 (by decide) (hts (.fieldLink RX0 11 "RepairSender$Equations" "cells" "[[I") (List.mem_of_getElem? (i := 2) rfl)) (fun _ h9 => h9) rfl dX0_solve_13 ?_
        refine lv_iload_n hx hb dX0_solve_16 rfl (lv_at hl 1 rfl) ?_
        refine q_aald (b := ra t) (j := t) hx hb hK hP 1 2 rfl rfl (by omega) (by decide) (if_pos (by omega)) dX0_solve_17 ?_
        refine lv_iload_n hx hb dX0_solve_18 rfl (lv_at hl 1 rfl) ?_
        refine q_ialdB (f := (elN n em t) t) (j := t) hx hb hK hP (2 + t) 0 (eq_row (X := [_, _]) (by omega)) rfl (by omega) (by decide) dX0_solve_19 ?_
        refine q_csi (va_runSN (As := [.int (bI ((elN n em t) t t))]) (rest := [.int (nI (t)), .ref (a0)]) ⟨hx, hb, hml, hown, hts⟩ (c_X1_inverse l (elN n em t t t) ) ⟨va_cnB 1 hts gX0_solve_X1_inverse_n36 rfl rfl rfl (hN _ (List.mem_of_getElem? (i := 16) rfl)) (hts (.initialized RX1) (List.mem_of_getElem? (i := 4) rfl)) hd_X1_inverse ⟨Nat.le_of_ble_eq_true rfl, Nat.le_of_ble_eq_true rfl⟩, (hts (.static yX1_inverse) (List.mem_of_getElem? (i := 3) rfl)), trivial⟩ P0_s rfl rfl hl.1 rfl (lv_room (Nat.le_of_ble_eq_true rfl)) dX0_solve_20 ⟨Nat.le_of_ble_eq_true rfl, Nat.le_of_ble_eq_true rfl⟩) (fun r_20 hr_20 => ?_)
        obtain rfl : r_20 = bI (finv (elN n em t t t)) := hr_20
        have hPc : va_P D vwCl (wEq cI cQ (a0) (a1) (ra) (n) ((elN n em t))) H := hP
        refine q_cv (wc := (wEq cI cQ (a0) (a1) (ra) (n) ((elN n em t)))) (wr := []) (w1 := fun _ => (wEq cI cQ (a0) (a1) (ra) (n) (scl (elN n em t) t (finv (elN n em t t t)) (n + 1)))) (va_runV (As := [.int (nI (t)), .int (bI (finv (elN n em t t t)))]) (rest := []) ⟨hx, hb, hml, hown, hts⟩ (c_X0_scaleRow l D cI cZ cQ cL (a0) (a1) (ra) (n) (elN n em t) (t) (finv (elN n em t t t)) H.size (by omega) (by omega)) (cwV 2 hts gX0_solve_X0_scaleRow rfl rfl rfl ⟨rfl, hd_X0_scaleRow⟩ ⟨Nat.le_of_ble_eq_true rfl, Nat.le_of_ble_eq_true rfl⟩) (PW_v (q := (RX0, TX0, 2)) (ci := 0) (q0 := 0) hPc hK hD hN rfl rfl) rfl rfl hl.1 rfl (lv_room (Nat.le_of_ble_eq_true rfl)) dX0_solve_23 ⟨Nat.le_of_ble_eq_true rfl, Nat.le_of_ble_eq_true rfl⟩) hP hD hS hA [0, 1, 2, 3, 4, 5, 6, 7, 8, 9] [] rfl rfl (by decide) (by decide) (fun u_23 H locs h_23 hP hD hS => ?_)
        have hP : va_P D vwCl (wEq cI cQ (a0) (a1) (ra) (n) (scl (elN n em t) t (finv (elN n em t t t)) (n + 1))) H := hP
        have hD : va_D A (wEq cI cQ (a0) (a1) (ra) (n) (scl (elN n em t) t (finv (elN n em t t t)) (n + 1))) := hD
        refine lv_iconst (v := nI (0)) hx hb dX0_solve_26 (by decide) ?_
        refine lv_istore_n (lv' := [(2, .int (nI (0))), (0, .ref (a0)), (1, .int (nI (t)))]) hx hb dX0_solve_27 rfl hl (by decide) rfl (fun ls hl => ?_)
        have L28_3 : ∀ (n28_3 : Nat) (q : Nat), n - q < n28_3 → (q ≤ n) → ∀ (H : Heap) (locs : List Loc), va_P D vwCl (wEq cI cQ (a0) (a1) (ra) (n) (elR n t (elN n em t) q)) H → va_D A (wEq cI cQ (a0) (a1) (ra) (n) (elR n t (elN n em t) q)) → va_S A s.heap H locs → ∀ (ls : Array Slot), lv_has ls 3 [(0, .ref (a0)), (1, .int (nI (t))), (2, .int (nI (q)))] → W p l e (headSpec wsX0_solve ({ frames := 2, cells := 0, slots := 0, locals := 48 } : Room)).room s m ([.ref (a0)] : List Value).toArray below meth c H locs 0 0 (MQ below (QV D A (fun (_ : Unit) => True) (fun _ => (wEq cI cQ (a0) (a1) (ra) (n) (elN n em n)))) ([.ref (a0)] : List Value).toArray s 0 0 A) (F0 m 28 ls []) := by
          intro n28_3
          induction n28_3 with
          | zero =>
            intro q hn28_3
            exact absurd hn28_3 (Nat.not_lt_zero _)
          | succ n28_3 ih28_3 =>
            intro q hn28_3 hq H locs hP hD hS ls hl
            refine lv_iload_n hx hb dX0_solve_28 rfl (lv_at hl 2 rfl) ?_
            refine lv_aload_n hx hb dX0_solve_29 rfl (lv_at hl 0 rfl) ?_
            refine va_get (D := D) (ci := 0) (v := .int (nI (n))) (C := RX0) (T := TX0) (N := 2) hx hb hts iwX0_solve_X0 hown hK hP 0 rfl rfl 1 (by decide) (hts (.fieldLink RX0 22 "RepairSender$Equations" "count" "I") (List.mem_of_getElem? (i := 1) rfl)) (fun _ h9 => h9) rfl dX0_solve_30 ?_
            refine q_icmp_ge (u := ((q : Nat) : Int)) (v := ((n : Nat) : Int)) (tgt := 61) hx hb dX0_solve_33 (by decide) (nI_toInt (by omega)) (nI_toInt (by omega)) (fun c_33 => ?_) (fun c_33 => ?_)
            · obtain rfl : n = q := by omega
              refine lv_iinc (v := nI (t + 1)) (lv' := [(1, .int (nI (t + 1))), (0, .ref (a0)), (2, .int (nI (n)))]) hx hb dX0_solve_61 hl (k := 1) rfl (show nI (t) + Int32.ofInt 1 = nI (t + 1) from nI_add (t) 1) (by decide) rfl (fun ls hl => ?_)
              refine lv_goto (tgt := 2) hx hb dX0_solve_64 (by decide) ?_
              have eW : (wEq cI cQ (a0) (a1) (ra) (n) (elR n t (elN n em t) n)) = (wEq cI cQ (a0) (a1) (ra) (n) (elN n em (t + 1))) := by rw [elR_n]; rfl
              rw [eW] at hP hD
              clear eW
              exact ih2_1 (t + 1) (by omega) (by omega) _ _ hP hD hS ls (lv_sub hl [1, 0] rfl)
            · skip
              refine lv_iload_n hx hb dX0_solve_36 rfl (lv_at hl 2 rfl) ?_
              refine lv_iload_n hx hb dX0_solve_37 rfl (lv_at hl 1 rfl) ?_
              refine q_icmp_eq (u := ((q : Nat) : Int)) (v := ((t : Nat) : Int)) (tgt := 55) hx hb dX0_solve_38 (by decide) (nI_toInt (by omega)) (nI_toInt (by omega)) (fun c_38 => ?_) (fun c_38 => ?_)
              · skip
                refine lv_iinc (v := nI (q + 1)) (lv' := [(2, .int (nI (q + 1))), (0, .ref (a0)), (1, .int (nI (t)))]) hx hb dX0_solve_55 hl (k := 2) rfl (show nI (q) + Int32.ofInt 1 = nI (q + 1) from nI_add (q) 1) (by decide) rfl (fun ls hl => ?_)
                refine lv_goto (tgt := 28) hx hb dX0_solve_58 (by decide) ?_
                have eW : (wEq cI cQ (a0) (a1) (ra) (n) (elR n t (elN n em t) q)) = (wEq cI cQ (a0) (a1) (ra) (n) (elR n t (elN n em t) (q + 1))) := by first | (rw [elR_s _ (by omega) (by omega)]) | (obtain rfl : q = t := (by omega); rw [elR_t])
                rw [eW] at hP hD
                clear eW
                exact ih28_3 (q + 1) (by omega) (by omega) _ _ hP hD hS ls (lv_sub hl [1, 2, 0] rfl)
              · skip
                refine lv_aload_n hx hb dX0_solve_41 rfl (lv_at hl 0 rfl) ?_
                refine lv_iload_n hx hb dX0_solve_42 rfl (lv_at hl 2 rfl) ?_
                refine lv_iload_n hx hb dX0_solve_43 rfl (lv_at hl 1 rfl) ?_
                refine lv_aload_n hx hb dX0_solve_44 rfl (lv_at hl 0 rfl) ?_
                refine va_get (D := D) (ci := 0) (v := .ref (a1)) (C := RX0) (T := TX0) (N := 2) hx hb hts iwX0_solve_X0 hown hK hP 0 rfl rfl 0 (by decide) (hts (.fieldLink RX0 11 "RepairSender$Equations" "cells" "[[I") (List.mem_of_getElem? (i := 2) rfl)) (fun _ h9 => h9) rfl dX0_solve_45 ?_
                refine lv_iload_n hx hb dX0_solve_48 rfl (lv_at hl 2 rfl) ?_
                refine q_aald (b := ra q) (j := q) hx hb hK hP 1 2 rfl rfl (by omega) (by decide) (if_pos (by omega)) dX0_solve_49 ?_
                refine lv_iload_n hx hb dX0_solve_50 rfl (lv_at hl 1 rfl) ?_
                refine q_ialdB (f := (elR n t (elN n em t) q) q) (j := t) hx hb hK hP (2 + q) 0 (eq_row (X := [_, _]) (by omega)) rfl (by omega) (by decide) dX0_solve_51 ?_
                have hPc : va_P D vwCl (wEq cI cQ (a0) (a1) (ra) (n) ((elR n t (elN n em t) q))) H := hP
                refine q_cv (wc := (wEq cI cQ (a0) (a1) (ra) (n) ((elR n t (elN n em t) q)))) (wr := []) (w1 := fun _ => (wEq cI cQ (a0) (a1) (ra) (n) (adm (elR n t (elN n em t) q) q t (elR n t (elN n em t) q q t) (n + 1)))) (va_runV (As := [.int (nI (q)), .int (nI (t)), .int (bI ((elR n t (elN n em t) q) q t))]) (rest := []) ⟨hx, hb, hml, hown, hts⟩ (c_X0_addMultiple l D cI cZ cQ cL (a0) (a1) (ra) (n) (elR n t (elN n em t) q) (q) (t) (elR n t (elN n em t) q q t) H.size (by omega) (by omega) (by omega) (by omega)) (cwV 3 hts gX0_solve_X0_addMultiple rfl rfl rfl ⟨rfl, hd_X0_addMultiple⟩ ⟨Nat.le_of_ble_eq_true rfl, Nat.le_of_ble_eq_true rfl⟩) (PW_v (q := (RX0, TX0, 2)) (ci := 0) (q0 := 0) hPc hK hD hN rfl rfl) rfl rfl hl.1 rfl (lv_room (Nat.le_of_ble_eq_true rfl)) dX0_solve_52 ⟨Nat.le_of_ble_eq_true rfl, Nat.le_of_ble_eq_true rfl⟩) hP hD hS hA [0, 1, 2, 3, 4, 5, 6, 7, 8, 9] [] rfl rfl (by decide) (by decide) (fun u_52 H locs h_52 hP hD hS => ?_)
                have hP : va_P D vwCl (wEq cI cQ (a0) (a1) (ra) (n) (adm (elR n t (elN n em t) q) q t (elR n t (elN n em t) q q t) (n + 1))) H := hP
                have hD : va_D A (wEq cI cQ (a0) (a1) (ra) (n) (adm (elR n t (elN n em t) q) q t (elR n t (elN n em t) q q t) (n + 1))) := hD
                refine lv_iinc (v := nI (q + 1)) (lv' := [(2, .int (nI (q + 1))), (0, .ref (a0)), (1, .int (nI (t)))]) hx hb dX0_solve_55 hl (k := 2) rfl (show nI (q) + Int32.ofInt 1 = nI (q + 1) from nI_add (q) 1) (by decide) rfl (fun ls hl => ?_)
                refine lv_goto (tgt := 28) hx hb dX0_solve_58 (by decide) ?_
                have eW : (wEq cI cQ (a0) (a1) (ra) (n) (adm (elR n t (elN n em t) q) q t (elR n t (elN n em t) q q t) (n + 1))) = (wEq cI cQ (a0) (a1) (ra) (n) (elR n t (elN n em t) (q + 1))) := by first | (rw [elR_s _ (by omega) (by omega)]) | (obtain rfl : q = t := (by omega); rw [elR_t])
                rw [eW] at hP hD
                clear eW
                exact ih28_3 (q + 1) (by omega) (by omega) _ _ hP hD hS ls (lv_sub hl [1, 2, 0] rfl)
        have eW : (wEq cI cQ (a0) (a1) (ra) (n) (scl (elN n em t) t (finv (elN n em t t t)) (n + 1))) = (wEq cI cQ (a0) (a1) (ra) (n) (elR n t (elN n em t) 0)) := by rw [elR_0]
        rw [eW] at hP hD
        clear eW
        exact L28_3 _ (0) (Nat.lt_succ_self _) (by omega) _ _ hP hD hS ls (lv_sub hl [1, 2, 0] rfl)
  exact L2_1 _ (0) (Nat.lt_succ_self _) (by omega) _ _ hP hD hS ls (lv_sub hl [1, 0] rfl)

theorem iwX0_polynomialAt_X0 : ∀ w ∈ wsX00, w ∈ wsX0_polynomialAt := by decide +kernel
set_option maxHeartbeats 4000000 in
set_option maxRecDepth 100000 in
theorem c_X0_polynomialAt (l : Launch) (D : va_G) (cI cZ cQ cL : ClassId) (a0 : Nat) (a1 : Nat) (ra : Nat → Nat) (n : Nat) (em : Nat → Nat → B8) (x : B8) (sz : Nat) (hn : n ≤ 8) : Met l yX0_polynomialAt wsX0_polynomialAt ({ frames := 1, cells := 0, slots := 0, locals := 24 } : Room) (PW D (TY cI cZ cQ cL) (wEq cI cQ (a0) (a1) (ra) (n) (em)) sz [.ref (a0), .int (bI (x))]) (vp_Si (fun r => r = bI (hor n (fun q => em q n) x n))) 0 0 (fun _ => False) := by
  refine Met.ofW (cc := cX0_polynomialAt) (maxL := 4) (ret := (some .int)) (by decide) rfl ?_
  intro p e s m args below meth c s₁ B hml hv
  obtain ⟨rfl, hsz, hP, hK, hD0, hN⟩ := hv
  have hx := B.exec
  have hb := B.bytes
  have hr := B.returns
  have hts := atoms_spec (ws := wsX0_polynomialAt) B.pre
  have hown : s.vm.findClass RX0 = some m.cls := findClass_of_methodNamed B.named
  have hlocks := B.notSynchronized
  subst hsz
  have hD := hD0
  have hl := lv_entry ([.ref (a0), .int (bI (x))]) (n := 4) (Nat.le_of_ble_eq_true rfl)
  rw [lg_entry_eq]
  generalize (lg_sl ([.ref (a0), .int (bI (x))]) ++ List.replicate (4 - (lg_sl ([.ref (a0), .int (bI (x))])).length) Slot.unset).toArray = ls at hl ⊢
  have hl : lv_has ls 4 [(0, .ref (a0)), (1, .int (bI (x)))] := hl
  refine lv_iconst (v := nI (0)) hx hb dX0_polynomialAt_0 (by decide) ?_
  refine lv_istore_n (lv' := [(2, .int (nI (0))), (0, .ref (a0)), (1, .int (bI (x)))]) hx hb dX0_polynomialAt_1 rfl hl (by decide) rfl (fun ls hl => ?_)
  refine lv_aload_n hx hb dX0_polynomialAt_2 rfl (lv_at hl 1 rfl) ?_
  refine va_get (D := D) (ci := 0) (v := .int (nI (n))) (C := RX0) (T := TX0) (N := 2) hx hb hts iwX0_polynomialAt_X0 hown hK hP 0 rfl rfl 1 (by decide) (hts (.fieldLink RX0 22 "RepairSender$Equations" "count" "I") (List.mem_of_getElem? (i := 1) rfl)) (fun _ h9 => h9) rfl dX0_polynomialAt_3 ?_
  refine lv_iconst (v := nI (1)) hx hb dX0_polynomialAt_6 (by decide) ?_
  refine lv_isub hx hb dX0_polynomialAt_7 ?_
  refine q_top (show (nI (n) - nI (1)) = (pI n) from pI_sub n) ?_
  refine lv_istore_n (lv' := [(3, .int (pI n)), (2, .int (nI (0))), (0, .ref (a0)), (1, .int (bI (x)))]) hx hb dX0_polynomialAt_8 rfl hl (by decide) rfl (fun ls hl => ?_)
  have L9_1 : ∀ (n9_1 : Nat) (t : Nat), t < n9_1 → (t ≤ n) → ∀ (ls : Array Slot), lv_has ls 4 [(0, .ref (a0)), (1, .int (bI (x))), (2, .int (bI (hor n (fun q => em q n) x (n - t)))), (3, .int (pI t))] → W p l e (headSpec wsX0_polynomialAt ({ frames := 1, cells := 0, slots := 0, locals := 24 } : Room)).room s m ([.ref (a0), .int (bI (x))] : List Value).toArray below meth c s.heap [] 0 0 (MQ below (vp_Si (fun r => r = bI (hor n (fun q => em q n) x n))) ([.ref (a0), .int (bI (x))] : List Value).toArray s 0 0 (fun _ => False)) (F0 m 9 ls []) := by
    intro n9_1
    induction n9_1 with
    | zero =>
      intro t hn9_1
      exact absurd hn9_1 (Nat.not_lt_zero _)
    | succ n9_1 ih9_1 =>
      intro t hn9_1 ht ls hl
      rcases Nat.eq_zero_or_pos t with rfl | htp
      · skip
        have hl : lv_has ls 4 [(0, .ref (a0)), (1, .int (bI (x))), (2, .int (bI (hor n (fun q => em q n) x (n - 0)))), (3, .int ((-1)))] := hl
        refine lv_iload_n hx hb dX0_polynomialAt_9 rfl (lv_at hl 3 rfl) ?_
        refine q_if_lt (u := (-1 : Int)) (tgt := 37) hx hb dX0_polynomialAt_10 (by decide) (by decide) (fun _ => ?_) (fun c_10 => absurd c_10 (by decide))
        refine lv_iload_n hx hb dX0_polynomialAt_37 rfl (lv_at hl 2 rfl) ?_
        exact W.iret (v := bI (hor n (fun q => em q n) x (n - 0))) hx hb hr (fun t ht hW => ⟨_, rfl, (by rfl), ht⟩) (fun q h => by cases h) dX0_polynomialAt_38
      · obtain ⟨u, rfl⟩ : ∃ u, t = u + 1 := ⟨t - 1, by omega⟩
        have e3 : hor n (fun q => em q n) x (n - u) = (fm (hor n (fun q => em q n) x (n - (u + 1))) x) ^^^ (em u n) := by
          rw [show n - u = (n - (u + 1)) + 1 by omega]
          show (fm (hor n (fun q => em q n) x (n - (u + 1))) x) ^^^ (em (n - 1 - (n - (u + 1))) n) = _
          rw [show n - 1 - (n - (u + 1)) = u by omega]
        have hl : lv_has ls 4 [(0, .ref (a0)), (1, .int (bI (x))), (2, .int (bI (hor n (fun q => em q n) x (n - (u + 1))))), (3, .int (nI (u)))] := hl
        refine lv_iload_n hx hb dX0_polynomialAt_9 rfl (lv_at hl 3 rfl) ?_
        refine q_if_lt (u := ((u : Nat) : Int)) (tgt := 37) hx hb dX0_polynomialAt_10 (by decide) (nI_toInt (by omega)) (fun c_10 => absurd c_10 (by omega)) (fun c_10 => ?_)
        refine lv_iload_n hx hb dX0_polynomialAt_13 rfl (lv_at hl 2 rfl) ?_
        refine lv_iload_n hx hb dX0_polynomialAt_14 rfl (lv_at hl 1 rfl) ?_
        refine q_csi (va_runSN (As := [.int (bI (hor n (fun q => em q n) x (n - (u + 1)))), .int (bI (x))]) (rest := []) ⟨hx, hb, hml, hown, hts⟩ (c_X1_product l (hor n (fun q => em q n) x (n - (u + 1))) (x) ) ⟨va_cnB 2 hts gX0_polynomialAt_X1_product_n27 rfl rfl rfl (hN _ (List.mem_of_getElem? (i := 14) rfl)) (hts (.initialized RX1) (List.mem_of_getElem? (i := 4) rfl)) hd_X1_product ⟨Nat.le_of_ble_eq_true rfl, Nat.le_of_ble_eq_true rfl⟩, (hts (.static yX1_product) (List.mem_of_getElem? (i := 3) rfl)), trivial⟩ P0_s rfl rfl hl.1 rfl (lv_room (Nat.le_of_ble_eq_true rfl)) dX0_polynomialAt_15 ⟨Nat.le_of_ble_eq_true rfl, Nat.le_of_ble_eq_true rfl⟩) (fun r_15 hr_15 => ?_)
        obtain rfl : r_15 = bI (fm (hor n (fun q => em q n) x (n - (u + 1))) x) := hr_15
        refine lv_aload_n hx hb dX0_polynomialAt_18 rfl (lv_at hl 0 rfl) ?_
        refine va_get (D := D) (ci := 0) (v := .ref (a1)) (C := RX0) (T := TX0) (N := 2) hx hb hts iwX0_polynomialAt_X0 hown hK hP 0 rfl rfl 0 (by decide) (hts (.fieldLink RX0 11 "RepairSender$Equations" "cells" "[[I") (List.mem_of_getElem? (i := 2) rfl)) (fun _ h9 => h9) rfl dX0_polynomialAt_19 ?_
        refine lv_iload_n hx hb dX0_polynomialAt_22 rfl (lv_at hl 3 rfl) ?_
        refine q_aald (b := ra u) (j := u) hx hb hK hP 1 2 rfl rfl (by omega) (by decide) (if_pos (by omega)) dX0_polynomialAt_23 ?_
        refine lv_aload_n hx hb dX0_polynomialAt_24 rfl (lv_at hl 0 rfl) ?_
        refine va_get (D := D) (ci := 0) (v := .int (nI (n))) (C := RX0) (T := TX0) (N := 2) hx hb hts iwX0_polynomialAt_X0 hown hK hP 0 rfl rfl 1 (by decide) (hts (.fieldLink RX0 22 "RepairSender$Equations" "count" "I") (List.mem_of_getElem? (i := 1) rfl)) (fun _ h9 => h9) rfl dX0_polynomialAt_25 ?_
        refine q_ialdB (f := em u) (j := n) hx hb hK hP (2 + u) 0 (eq_row (X := [_, _]) (by omega)) rfl (by omega) (by decide) dX0_polynomialAt_28 ?_
        refine lv_ixor hx hb dX0_polynomialAt_29 ?_
        refine q_top (show (bI (fm (hor n (fun q => em q n) x (n - (u + 1))) x) ^^^ bI (em u n)) = bI ((fm (hor n (fun q => em q n) x (n - (u + 1))) x) ^^^ (em u n)) from bI_xor _ _) ?_
        refine lv_istore_n (lv' := [(2, .int (bI ((fm (hor n (fun q => em q n) x (n - (u + 1))) x) ^^^ (em u n)))), (0, .ref (a0)), (1, .int (bI (x))), (3, .int (nI (u)))]) hx hb dX0_polynomialAt_30 rfl hl (by decide) rfl (fun ls hl => ?_)
        refine lv_iinc (v := (pI u)) (lv' := [(3, .int (pI u)), (2, .int (bI ((fm (hor n (fun q => em q n) x (n - (u + 1))) x) ^^^ (em u n)))), (0, .ref (a0)), (1, .int (bI (x)))]) hx hb dX0_polynomialAt_31 hl (k := 3) rfl (pI_m1 u) (by decide) rfl (fun ls hl => ?_)
        refine lv_goto (tgt := 9) hx hb dX0_polynomialAt_34 (by decide) ?_
        exact ih9_1 (u) (by omega) (by omega) ls (lv_sub hl [2, 3, 1, 0] (by rw [e3]; rfl))
  exact L9_1 _ (n) (Nat.lt_succ_self _) (by omega) ls (lv_sub hl [2, 3, 1, 0] (by rw [Nat.sub_self]; rfl))
