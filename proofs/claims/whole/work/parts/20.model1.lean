theorem nI_m1i {n : Nat} (h : n < 2 ^ 30) : (nI n - nI 1).toInt = (n : Int) - 1 := pk_sub_toInt h (by decide)
theorem nI_sub2 (a b d : Nat) : nI a - nI b - nI d = nI a - nI (b + d) := by
  rw [← nI_add, Int32.sub_eq_add_neg, Int32.sub_eq_add_neg, Int32.sub_eq_add_neg, Int32.neg_add, Int32.add_assoc]
  first | rfl | (rw [Int32.sub_eq_add_neg])
theorem un_or0 (f : Nat → Nat) (i : Nat) : un f i (f i ||| 0) = f := by
  funext q
  unfold un
  by_cases h : q = i
  · subst h
    rw [if_pos rfl, Nat.or_zero]
  · rw [if_neg h]
def lay (i k : Nat) (S gon na : Nat → Nat) : Nat → Nat := fun r => if r < i then ndf k S gon r else na r
theorem lay_0 (k : Nat) (S gon na : Nat → Nat) : lay 0 k S gon na = na := by
  funext r
  simp [lay]
theorem lay_s {i k v : Nat} {S gon na : Nat → Nat} (h : v = ndf k S gon i) : un (lay i k S gon na) i v = lay (i + 1) k S gon na := by
  funext r
  unfold un lay
  by_cases h2 : r = i
  · subst h2
    rw [if_pos rfl, if_pos (by omega), h]
  · rw [if_neg h2]
    by_cases h3 : r < i
    · rw [if_pos h3, if_pos (by omega)]
    · rw [if_neg h3, if_neg (by omega)]
theorem hrR_c {nd nd' wai : Nat → Nat} {wt hb : Nat} : ∀ i, (∀ r, r < i → nd r = nd' r) → hrR nd wai wt hb i = hrR nd' wai wt hb i
  | 0, _ => rfl
  | i + 1, h => by
    unfold hrR
    rw [hrR_c i (fun r hr => h r (by omega)), h i (by omega)]
theorem hrK_c {nd nd' wai : Nat → Nat} {wt hb : Nat} : ∀ i, (∀ r, r < i → nd r = nd' r) → hrK nd wai wt hb i = hrK nd' wai wt hb i
  | 0, _ => rfl
  | i + 1, h => by
    unfold hrK
    rw [hrK_c i (fun r hr => h r (by omega)), h i (by omega)]
theorem hrH_c {nd nd' wai : Nat → Nat} {wt hb : Nat} : ∀ i, (∀ r, r < i → nd r = nd' r) → hrH nd wai wt hb i = hrH nd' wai wt hb i
  | 0, _ => rfl
  | i + 1, h => by
    unfold hrH
    rw [hrH_c i (fun r hr => h r (by omega)), h i (by omega)]
theorem mab_ne {k i : Nat} (hk : k ≤ 8) (hi : i < k) : mab k 1 (BitVec.ofNat 8 i) i k ≠ 0 := by
  rw [mab_wab, fm_1l]
  exact wab_ne (p := fun j => BitVec.ofNat 8 j) (ofn_inj (by omega)) hi k (Nat.le_refl k)
theorem inv_end {a : B8} {j : Nat} (ha : a ≠ 0) (hj : j < 256) (h : ((fm a (BitVec.ofNat 8 j)).toNat : Int) = ((1 : Nat) : Int)) : nI j = bI (finv a) := by
  rw [bI_of hj, fm_inv_un (a := a) (b := BitVec.ofNat 8 j) (BitVec.eq_of_toNat_eq (by rw [show (1 : B8).toNat = 1 from rfl]; omega))]
theorem inv_go {a : B8} {j : Nat} (ha : a ≠ 0) (hj : j ≤ (finv a).toNat) (h : ((fm a (BitVec.ofNat 8 j)).toNat : Int) ≠ ((1 : Nat) : Int)) : j + 1 ≤ (finv a).toNat := by
  rcases Nat.lt_or_ge j (finv a).toNat with h1 | h1
  · exact h1
  · obtain rfl : j = (finv a).toNat := by omega
    rw [BitVec.ofNat_toNat, BitVec.setWidth_eq, fm_inv ha] at h
    exact absurd rfl h
theorem iwX4_thrown_X4 : ∀ w ∈ wsX40, w ∈ wsX4_thrown := by decide +kernel
set_option maxHeartbeats 4000000 in
set_option maxRecDepth 100000 in
theorem c_X4_thrown (l : Launch) (D : va_G) (cI cZ cQ cL : ClassId) (am : Nat → Nat) (k : Nat) (pat : Nat) (dat : Nat → B8) (sent : Nat) (rc : Nat) (los : Nat → Nat) (wai : Nat → Nat) (set : Nat → Nat) (bad : Nat → Nat) (gon : Nat → Nat) (rep : Nat) (sil : Nat) (thr : Nat) (na : Nat → Nat) (sz : Nat) : Met l yX4_thrown wsX4_thrown ({ frames := 0, cells := 0, slots := 0, locals := 0 } : Room) (PW D (TY cI cZ cQ cL) (wM cI cZ am (k) (pat) (dat) (sent) (rc) (los) (wai) (set) (bad) (gon) (rep) (sil) (thr) (na)) sz [.ref (am 0)]) (vp_Si (fun z9 => z9 = nI (thr))) 0 0 (fun _ => False) := by
  refine Met.ofW (cc := cX4_thrown) (maxL := 1) (ret := (some .int)) (by decide) rfl ?_
  intro p e s m args below meth c s₁ B hml hv
  obtain ⟨rfl, hsz, hP, hK, hD0, hN⟩ := hv
  have hx := B.exec
  have hb := B.bytes
  have hr := B.returns
  have hts := atoms_spec (ws := wsX4_thrown) B.pre
  have hown : s.vm.findClass RX4 = some m.cls := findClass_of_methodNamed B.named
  have hlocks := B.notSynchronized
  subst hsz
  have hD := hD0
  have hl := lv_entry ([.ref (am 0)]) (n := 1) (Nat.le_of_ble_eq_true rfl)
  rw [lg_entry_eq]
  generalize (lg_sl ([.ref (am 0)]) ++ List.replicate (1 - (lg_sl ([.ref (am 0)])).length) Slot.unset).toArray = ls at hl ⊢
  have hl : lv_has ls 1 [(0, .ref (am 0))] := hl
  refine lv_aload_n hx hb dX4_thrown_0 rfl (lv_at hl 0 rfl) ?_
  refine va_get (D := D) (ci := 3) (v := .int (nI (thr))) (C := RX4) (T := TX4) (N := 14) hx hb hts iwX4_thrown_X4 hown hK hP 0 rfl rfl 12 (by decide) (hts (.fieldLink RX4 39 "RepairSenderModel" "thrown" "I") (List.mem_of_getElem? (i := 1) rfl)) (fun _ h9 => h9) rfl dX4_thrown_1 ?_
  exact W.iret (v := nI (thr)) hx hb hr (fun t ht hW => ⟨_, rfl, (by rfl), ht⟩) (fun q h => by cases h) dX4_thrown_4

set_option maxHeartbeats 4000000 in
set_option maxRecDepth 100000 in
theorem c_X4_in (l : Launch) (x : Int32) (y : Int32) (z : Int32) (u : Int) (v : Int) (hu : y.toInt = u) (hvv : z.toInt = v) : Met l yX4_in wsX4_in ({ frames := 0, cells := 0, slots := 0, locals := 0 } : Room) (P0 [.int (x), .int (y), .int (z)]) (vp_Si (fun z9 => (z9 = nI (1) ∧ (u ≤ x.toInt ∧ x.toInt ≤ v)) ∨ (z9 = nI (0) ∧ (¬ (u ≤ x.toInt ∧ x.toInt ≤ v))))) 0 0 (fun _ => False) := by
  refine Met.ofW (cc := cX4_in) (maxL := 3) (ret := (some .boolean)) (by decide) rfl ?_
  intro p e s m args below meth c s₁ B hml hv
  obtain ⟨rfl, -⟩ := hv
  have hx := B.exec
  have hb := B.bytes
  have hr := B.returns
  have hts := atoms_spec (ws := wsX4_in) B.pre
  have hown : s.vm.findClass RX4 = some m.cls := findClass_of_methodNamed B.named
  have hlocks := B.notSynchronized
  have hl := lv_entry ([.int (x), .int (y), .int (z)]) (n := 3) (Nat.le_of_ble_eq_true rfl)
  rw [lg_entry_eq]
  generalize (lg_sl ([.int (x), .int (y), .int (z)]) ++ List.replicate (3 - (lg_sl ([.int (x), .int (y), .int (z)])).length) Slot.unset).toArray = ls at hl ⊢
  have hl : lv_has ls 3 [(0, .int (x)), (1, .int (y)), (2, .int (z))] := hl
  refine lv_iload_n hx hb dX4_in_0 rfl (lv_at hl 0 rfl) ?_
  refine lv_iload_n hx hb dX4_in_1 rfl (lv_at hl 1 rfl) ?_
  refine q_icmp_lt (u := (x).toInt) (v := (y).toInt) (tgt := 14) hx hb dX4_in_2 (by decide) (rfl) (rfl) (fun c_2 => ?_) (fun c_2 => ?_)
  · skip
    refine lv_iconst (v := nI (0)) hx hb dX4_in_14 (by decide) ?_
    exact W.zret (v := nI (0)) hx hb hr (rfl) (fun t ht hW => ⟨_, rfl, (by first | exact Or.inl ⟨rfl, by omega⟩ | exact Or.inr ⟨rfl, by omega⟩), ht⟩) (fun q h => by cases h) dX4_in_15
  · skip
    refine lv_iload_n hx hb dX4_in_5 rfl (lv_at hl 0 rfl) ?_
    refine lv_iload_n hx hb dX4_in_6 rfl (lv_at hl 2 rfl) ?_
    refine q_icmp_gt (u := (x).toInt) (v := (z).toInt) (tgt := 14) hx hb dX4_in_7 (by decide) (rfl) (rfl) (fun c_7 => ?_) (fun c_7 => ?_)
    · skip
      refine lv_iconst (v := nI (0)) hx hb dX4_in_14 (by decide) ?_
      exact W.zret (v := nI (0)) hx hb hr (rfl) (fun t ht hW => ⟨_, rfl, (by first | exact Or.inl ⟨rfl, by omega⟩ | exact Or.inr ⟨rfl, by omega⟩), ht⟩) (fun q h => by cases h) dX4_in_15
    · skip
      refine lv_iconst (v := nI (1)) hx hb dX4_in_10 (by decide) ?_
      refine lv_goto (tgt := 15) hx hb dX4_in_11 (by decide) ?_
      exact W.zret (v := nI (1)) hx hb hr (rfl) (fun t ht hW => ⟨_, rfl, (by first | exact Or.inl ⟨rfl, by omega⟩ | exact Or.inr ⟨rfl, by omega⟩), ht⟩) (fun q h => by cases h) dX4_in_15

theorem iwX4_isReceiver_X4 : ∀ w ∈ wsX40, w ∈ wsX4_isReceiver := by decide +kernel
set_option maxHeartbeats 4000000 in
set_option maxRecDepth 100000 in
theorem c_X4_isReceiver (l : Launch) (D : va_G) (cI cZ cQ cL : ClassId) (am : Nat → Nat) (k : Nat) (pat : Nat) (dat : Nat → B8) (sent : Nat) (rc : Nat) (los : Nat → Nat) (wai : Nat → Nat) (set : Nat → Nat) (bad : Nat → Nat) (gon : Nat → Nat) (rep : Nat) (sil : Nat) (thr : Nat) (na : Nat → Nat) (x : Int32) (sz : Nat) (hrc : rc ≤ 6) : Met l yX4_isReceiver wsX4_isReceiver ({ frames := 1, cells := 0, slots := 0, locals := 22 } : Room) (PW D (TY cI cZ cQ cL) (wM cI cZ am (k) (pat) (dat) (sent) (rc) (los) (wai) (set) (bad) (gon) (rep) (sil) (thr) (na)) sz [.ref (am 0), .int (x)]) (vp_Si (fun z9 => (z9 = nI (1) ∧ (0 ≤ x.toInt ∧ x.toInt < rc)) ∨ (z9 = nI (0) ∧ (¬ (0 ≤ x.toInt ∧ x.toInt < rc))))) 0 0 (fun _ => False) := by
  refine Met.ofW (cc := cX4_isReceiver) (maxL := 2) (ret := (some .boolean)) (by decide) rfl ?_
  intro p e s m args below meth c s₁ B hml hv
  obtain ⟨rfl, hsz, hP, hK, hD0, hN⟩ := hv
  have hx := B.exec
  have hb := B.bytes
  have hr := B.returns
  have hts := atoms_spec (ws := wsX4_isReceiver) B.pre
  have hown : s.vm.findClass RX4 = some m.cls := findClass_of_methodNamed B.named
  have hlocks := B.notSynchronized
  subst hsz
  have hD := hD0
  have hl := lv_entry ([.ref (am 0), .int (x)]) (n := 2) (Nat.le_of_ble_eq_true rfl)
  rw [lg_entry_eq]
  generalize (lg_sl ([.ref (am 0), .int (x)]) ++ List.replicate (2 - (lg_sl ([.ref (am 0), .int (x)])).length) Slot.unset).toArray = ls at hl ⊢
  have hl : lv_has ls 2 [(0, .ref (am 0)), (1, .int (x))] := hl
  refine lv_iload_n hx hb dX4_isReceiver_0 rfl (lv_at hl 1 rfl) ?_
  refine lv_iconst (v := nI (0)) hx hb dX4_isReceiver_1 (by decide) ?_
  refine lv_aload_n hx hb dX4_isReceiver_2 rfl (lv_at hl 0 rfl) ?_
  refine va_get (D := D) (ci := 3) (v := .int (nI (rc))) (C := RX4) (T := TX4) (N := 14) hx hb hts iwX4_isReceiver_X4 hown hK hP 0 rfl rfl 4 (by decide) (hts (.fieldLink RX4 42 "RepairSenderModel" "receiverMany" "I") (List.mem_of_getElem? (i := 1) rfl)) (fun _ h9 => h9) rfl dX4_isReceiver_3 ?_
  refine lv_iconst (v := nI (1)) hx hb dX4_isReceiver_6 (by decide) ?_
  refine lv_isub hx hb dX4_isReceiver_7 ?_
  refine q_csi (va_runS (As := [.int (x), .int (nI (0)), .int (nI (rc) - nI (1))]) (rest := []) ⟨hx, hb, hml, hown, hts⟩ (c_X4_in l (x) (nI 0) (nI rc - nI 1) (0) ((rc : Int) - 1) (by decide) (nI_m1i (by omega))) (va_cwS 3 hts gX4_isReceiver_X4_in rfl rfl rfl hd_X4_in ⟨Nat.le_of_ble_eq_true rfl, Nat.le_of_ble_eq_true rfl⟩) P0_s rfl rfl hl.1 rfl (lv_room (Nat.le_of_ble_eq_true rfl)) dX4_isReceiver_8 ⟨Nat.le_of_ble_eq_true rfl, Nat.le_of_ble_eq_true rfl⟩) (fun r_8 hr_8 => ?_)
  rcases hr_8 with ⟨rfl, h_8⟩ | ⟨rfl, h_8⟩
  · have h_8 : 0 ≤ x.toInt ∧ x.toInt ≤ ((rc : Int) - 1) := h_8
    exact W.zret (v := nI (1)) hx hb hr (rfl) (fun t ht hW => ⟨_, rfl, (by first | exact Or.inl ⟨rfl, by omega⟩ | exact Or.inr ⟨rfl, by omega⟩), ht⟩) (fun q h => by cases h) dX4_isReceiver_11
  · have h_8 : ¬ (0 ≤ x.toInt ∧ x.toInt ≤ ((rc : Int) - 1)) := h_8
    exact W.zret (v := nI (0)) hx hb hr (rfl) (fun t ht hW => ⟨_, rfl, (by first | exact Or.inl ⟨rfl, by omega⟩ | exact Or.inr ⟨rfl, by omega⟩), ht⟩) (fun q h => by cases h) dX4_isReceiver_11

theorem iwX4_begin_X4 : ∀ w ∈ wsX40, w ∈ wsX4_begin := by decide +kernel
set_option maxHeartbeats 4000000 in
set_option maxRecDepth 100000 in
theorem c_X4_begin (l : Launch) (D : va_G) (cI cZ cQ cL : ClassId) (am : Nat → Nat) (k : Nat) (pat : Nat) (dat : Nat → B8) (sent : Nat) (rc : Nat) (los : Nat → Nat) (wai : Nat → Nat) (set : Nat → Nat) (bad : Nat → Nat) (gon : Nat → Nat) (rep : Nat) (sil : Nat) (thr : Nat) (na : Nat → Nat) (x0 : Int32) (x1 : Int32) (sz : Nat) : Met l yX4_begin wsX4_begin ({ frames := 1, cells := 0, slots := 0, locals := 22 } : Room) (PW D (TY cI cZ cQ cL) (wM cI cZ am (k) (pat) (dat) (sent) (rc) (los) (wai) (set) (bad) (gon) (rep) (sil) (thr) (na)) sz [.ref (am 0), .int (x0), .int (x1)]) (QI D (va_A (wM cI cZ am (k) (pat) (dat) (sent) (rc) (los) (wai) (set) (bad) (gon) (rep) (sil) (thr) (na)) sz) (fun z9 (u9 : va_W) => (z9 = nI (sent) ∧ ((1 ≤ x0.toInt ∧ x0.toInt ≤ 8) ∧ (1 ≤ x1.toInt ∧ x1.toInt ≤ 20)) ∧ u9 = (wM cI cZ am (tn x0) (tn x1) (zrv 8 dat) (0) (0) (los) (wai) (set) (bad) (gon) (0) (0) (0) (na))) ∨ (z9 = nI (0) ∧ (¬ ((1 ≤ x0.toInt ∧ x0.toInt ≤ 8) ∧ (1 ≤ x1.toInt ∧ x1.toInt ≤ 20))) ∧ u9 = (wM cI cZ am (k) (pat) (dat) (sent) (rc) (los) (wai) (set) (bad) (gon) (rep) (sil) (1) (na)))) (fun u9 => u9)) 0 0 (va_A (wM cI cZ am (k) (pat) (dat) (sent) (rc) (los) (wai) (set) (bad) (gon) (rep) (sil) (thr) (na)) sz) := by
  refine Met.ofW (cc := cX4_begin) (maxL := 5) (ret := (some .int)) (by decide) rfl ?_
  intro p e s m args below meth c s₁ B hml hv
  obtain ⟨rfl, hsz, hP, hK, hD0, hN⟩ := hv
  have hx := B.exec
  have hb := B.bytes
  have hr := B.returns
  have hts := atoms_spec (ws := wsX4_begin) B.pre
  have hown : s.vm.findClass RX4 = some m.cls := findClass_of_methodNamed B.named
  have hlocks := B.notSynchronized
  subst hsz
  have hD := hD0.self (sz := s.heap.size)
  generalize hAe : va_A (wM cI cZ am (k) (pat) (dat) (sent) (rc) (los) (wai) (set) (bad) (gon) (rep) (sil) (thr) (na)) s.heap.size = A at hD ⊢
  have hA : ∀ q : Nat, s.heap.size ≤ q → A q := fun q h => by rw [← hAe]; exact Or.inr h
  have hS : va_S A s.heap s.heap [] := va_S.rf
  have hl := lv_entry ([.ref (am 0), .int (x0), .int (x1)]) (n := 5) (Nat.le_of_ble_eq_true rfl)
  rw [lg_entry_eq]
  generalize (lg_sl ([.ref (am 0), .int (x0), .int (x1)]) ++ List.replicate (5 - (lg_sl ([.ref (am 0), .int (x0), .int (x1)])).length) Slot.unset).toArray = ls at hl ⊢
  have hl : lv_has ls 5 [(0, .ref (am 0)), (1, .int (x0)), (2, .int (x1))] := hl
  refine lv_aload_n hx hb dX4_begin_0 rfl (lv_at hl 0 rfl) ?_
  refine lv_iload_n hx hb dX4_begin_1 rfl (lv_at hl 1 rfl) ?_
  refine lv_iconst (v := nI (1)) hx hb dX4_begin_2 (by decide) ?_
  refine lv_bipush (v := nI (8)) hx hb dX4_begin_3 (by decide) ?_
  refine q_csi (va_runS (As := [.int (x0), .int (nI (1)), .int (nI (8))]) (rest := [.ref (am 0)]) ⟨hx, hb, hml, hown, hts⟩ (c_X4_in l (x0) (nI 1) (nI 8) (1) (8) (by decide) (by decide)) (va_cwS 3 hts gX4_begin_X4_in rfl rfl rfl hd_X4_in ⟨Nat.le_of_ble_eq_true rfl, Nat.le_of_ble_eq_true rfl⟩) P0_s rfl rfl hl.1 rfl (lv_room (Nat.le_of_ble_eq_true rfl)) dX4_begin_5 ⟨Nat.le_of_ble_eq_true rfl, Nat.le_of_ble_eq_true rfl⟩) (fun r_5 hr_5 => ?_)
  rcases hr_5 with ⟨rfl, h_5⟩ | ⟨rfl, h_5⟩
  · have h_5 : 1 ≤ x0.toInt ∧ x0.toInt ≤ 8 := h_5
    refine q_if_eq (u := ((1 : Nat) : Int)) (tgt := 21) hx hb dX4_begin_8 (by decide) (nI_toInt (by omega)) (fun c_8 => absurd c_8 (by decide)) (fun _ => ?_)
    refine lv_iload_n hx hb dX4_begin_11 rfl (lv_at hl 2 rfl) ?_
    refine lv_iconst (v := nI (1)) hx hb dX4_begin_12 (by decide) ?_
    refine lv_bipush (v := nI (20)) hx hb dX4_begin_13 (by decide) ?_
    refine q_csi (va_runS (As := [.int (x1), .int (nI (1)), .int (nI (20))]) (rest := [.ref (am 0)]) ⟨hx, hb, hml, hown, hts⟩ (c_X4_in l (x1) (nI 1) (nI 20) (1) (20) (by decide) (by decide)) (va_cwS 3 hts gX4_begin_X4_in rfl rfl rfl hd_X4_in ⟨Nat.le_of_ble_eq_true rfl, Nat.le_of_ble_eq_true rfl⟩) P0_s rfl rfl hl.1 rfl (lv_room (Nat.le_of_ble_eq_true rfl)) dX4_begin_15 ⟨Nat.le_of_ble_eq_true rfl, Nat.le_of_ble_eq_true rfl⟩) (fun r_15 hr_15 => ?_)
    rcases hr_15 with ⟨rfl, h_15⟩ | ⟨rfl, h_15⟩
    · have h_15 : 1 ≤ x1.toInt ∧ x1.toInt ≤ 20 := h_15
      refine q_if_ne (u := ((1 : Nat) : Int)) (tgt := 25) hx hb dX4_begin_18 (by decide) (nI_toInt (by omega)) (fun _ => ?_) (fun c_18 => absurd c_18 (by decide))
      refine lv_iconst (v := nI (0)) hx hb dX4_begin_25 (by decide) ?_
      refine va_put (D := D) (ci := 3) (v := .int (nI (0))) (ty := .int) (C := RX4) (T := TX4) (N := 14) hx hb hts iwX4_begin_X4 tyX4 tyX4_ok nmX4 hown hK hP hD hS 0 rfl rfl 12 (by decide) (hts (.fieldLink RX4 39 "RepairSenderModel" "thrown" "I") (List.mem_of_getElem? (i := 1) rfl)) (fun _ h9 => h9) rfl (by decide +kernel) rfl rfl (Nat.le_of_ble_eq_true rfl) dX4_begin_26 (fun H locs hP hD hS => ?_)
      have hP : va_P D vwCl (wM cI cZ am (k) (pat) (dat) (sent) (rc) (los) (wai) (set) (bad) (gon) (rep) (sil) (0) (na)) H := hP
      have hD : va_D A (wM cI cZ am (k) (pat) (dat) (sent) (rc) (los) (wai) (set) (bad) (gon) (rep) (sil) (0) (na)) := hD
      refine lv_aload_n hx hb dX4_begin_29 rfl (lv_at hl 0 rfl) ?_
      refine va_get (D := D) (ci := 3) (v := .int (nI (0))) (C := RX4) (T := TX4) (N := 14) hx hb hts iwX4_begin_X4 hown hK hP 0 rfl rfl 12 (by decide) (hts (.fieldLink RX4 39 "RepairSenderModel" "thrown" "I") (List.mem_of_getElem? (i := 1) rfl)) (fun _ h9 => h9) rfl dX4_begin_30 ?_
      refine q_if_le (u := ((0 : Nat) : Int)) (tgt := 38) hx hb dX4_begin_33 (by decide) (nI_toInt (by omega)) (fun _ => ?_) (fun c_33 => absurd c_33 (by decide))
      have ht_x0 := tn_i (x := x0) (by omega)
      have ht_x1 := tn_i (x := x1) (by omega)
      refine lv_aload_n hx hb dX4_begin_38 rfl (lv_at hl 0 rfl) ?_
      refine va_get (D := D) (ci := 3) (v := .int (nI (sent))) (C := RX4) (T := TX4) (N := 14) hx hb hts iwX4_begin_X4 hown hK hP 0 rfl rfl 3 (by decide) (hts (.fieldLink RX4 49 "RepairSenderModel" "sentMany" "I") (List.mem_of_getElem? (i := 2) rfl)) (fun _ h9 => h9) rfl dX4_begin_39 ?_
      refine lv_istore_n (lv' := [(3, .int (nI (sent))), (0, .ref (am 0)), (1, .int (x0)), (2, .int (x1))]) hx hb dX4_begin_42 rfl hl (by decide) rfl (fun ls hl => ?_)
      refine lv_aload_n hx hb dX4_begin_43 rfl (lv_at hl 1 rfl) ?_
      refine lv_iload_n hx hb dX4_begin_44 rfl (lv_at hl 2 rfl) ?_
      refine q_top (show (x0) = nI (tn x0) from tn_I (by omega)) ?_
      refine va_put (D := D) (ci := 3) (v := .int (nI (tn x0))) (ty := .int) (C := RX4) (T := TX4) (N := 14) hx hb hts iwX4_begin_X4 tyX4 tyX4_ok nmX4 hown hK hP hD hS 0 rfl rfl 0 (by decide) (hts (.fieldLink RX4 32 "RepairSenderModel" "size" "I") (List.mem_of_getElem? (i := 3) rfl)) (fun _ h9 => h9) rfl (by decide +kernel) rfl rfl (Nat.le_of_ble_eq_true rfl) dX4_begin_45 (fun H locs hP hD hS => ?_)
      have hP : va_P D vwCl (wM cI cZ am (tn x0) (pat) (dat) (sent) (rc) (los) (wai) (set) (bad) (gon) (rep) (sil) (0) (na)) H := hP
      have hD : va_D A (wM cI cZ am (tn x0) (pat) (dat) (sent) (rc) (los) (wai) (set) (bad) (gon) (rep) (sil) (0) (na)) := hD
      refine lv_aload_n hx hb dX4_begin_48 rfl (lv_at hl 1 rfl) ?_
      refine lv_iload_n hx hb dX4_begin_49 rfl (lv_at hl 3 rfl) ?_
      refine q_top (show (x1) = nI (tn x1) from tn_I (by omega)) ?_
      refine va_put (D := D) (ci := 3) (v := .int (nI (tn x1))) (ty := .int) (C := RX4) (T := TX4) (N := 14) hx hb hts iwX4_begin_X4 tyX4 tyX4_ok nmX4 hown hK hP hD hS 0 rfl rfl 1 (by decide) (hts (.fieldLink RX4 36 "RepairSenderModel" "patience" "I") (List.mem_of_getElem? (i := 4) rfl)) (fun _ h9 => h9) rfl (by decide +kernel) rfl rfl (Nat.le_of_ble_eq_true rfl) dX4_begin_50 (fun H locs hP hD hS => ?_)
      have hP : va_P D vwCl (wM cI cZ am (tn x0) (tn x1) (dat) (sent) (rc) (los) (wai) (set) (bad) (gon) (rep) (sil) (0) (na)) H := hP
      have hD : va_D A (wM cI cZ am (tn x0) (tn x1) (dat) (sent) (rc) (los) (wai) (set) (bad) (gon) (rep) (sil) (0) (na)) := hD
      refine lv_iconst (v := nI (0)) hx hb dX4_begin_53 (by decide) ?_
      refine lv_istore (lv' := [(4, .int (nI (0))), (3, .int (nI (sent))), (0, .ref (am 0)), (1, .int (x0)), (2, .int (x1))]) hx hb dX4_begin_54 hl (by decide) rfl (fun ls hl => ?_)
      have L56_4 : ∀ (n56_4 : Nat) (i : Nat), 8 - i < n56_4 → (i ≤ 8) → ∀ (H : Heap) (locs : List Loc), va_P D vwCl (wM cI cZ am (tn x0) (tn x1) (zrv i dat) (sent) (rc) (los) (wai) (set) (bad) (gon) (rep) (sil) (0) (na)) H → va_D A (wM cI cZ am (tn x0) (tn x1) (zrv i dat) (sent) (rc) (los) (wai) (set) (bad) (gon) (rep) (sil) (0) (na)) → va_S A s.heap H locs → ∀ (ls : Array Slot), lv_has ls 5 [(0, .ref (am 0)), (3, .int (nI (sent))), (4, .int (nI (i)))] → W p l e (headSpec wsX4_begin ({ frames := 1, cells := 0, slots := 0, locals := 22 } : Room)).room s m ([.ref (am 0), .int (x0), .int (x1)] : List Value).toArray below meth c H locs 0 0 (MQ below (QI D A (fun z9 (u9 : va_W) => (z9 = nI (sent) ∧ ((1 ≤ x0.toInt ∧ x0.toInt ≤ 8) ∧ (1 ≤ x1.toInt ∧ x1.toInt ≤ 20)) ∧ u9 = (wM cI cZ am (tn x0) (tn x1) (zrv 8 dat) (0) (0) (los) (wai) (set) (bad) (gon) (0) (0) (0) (na))) ∨ (z9 = nI (0) ∧ (¬ ((1 ≤ x0.toInt ∧ x0.toInt ≤ 8) ∧ (1 ≤ x1.toInt ∧ x1.toInt ≤ 20))) ∧ u9 = (wM cI cZ am (k) (pat) (dat) (sent) (rc) (los) (wai) (set) (bad) (gon) (rep) (sil) (1) (na)))) (fun u9 => u9)) ([.ref (am 0), .int (x0), .int (x1)] : List Value).toArray s 0 0 A) (F0 m 56 ls []) := by
        intro n56_4
        induction n56_4 with
        | zero =>
          intro i hn56_4
          exact absurd hn56_4 (Nat.not_lt_zero _)
        | succ n56_4 ih56_4 =>
          intro i hn56_4 hi H locs hP hD hS ls hl
          refine lv_iload hx hb dX4_begin_56 (lv_at hl 2 rfl) ?_
          refine lv_bipush (v := nI (8)) hx hb dX4_begin_58 (by decide) ?_
          refine q_icmp_ge (u := ((i : Nat) : Int)) (v := ((8 : Nat) : Int)) (tgt := 77) hx hb dX4_begin_60 (by decide) (nI_toInt (by omega)) (nI_toInt (by omega)) (fun c_60 => ?_) (fun c_60 => ?_)
          · obtain rfl : 8 = i := by omega
            refine lv_aload_n hx hb dX4_begin_77 rfl (lv_at hl 0 rfl) ?_
            refine lv_iconst (v := nI (0)) hx hb dX4_begin_78 (by decide) ?_
            refine va_put (D := D) (ci := 3) (v := .int (nI (0))) (ty := .int) (C := RX4) (T := TX4) (N := 14) hx hb hts iwX4_begin_X4 tyX4 tyX4_ok nmX4 hown hK hP hD hS 0 rfl rfl 3 (by decide) (hts (.fieldLink RX4 49 "RepairSenderModel" "sentMany" "I") (List.mem_of_getElem? (i := 2) rfl)) (fun _ h9 => h9) rfl (by decide +kernel) rfl rfl (Nat.le_of_ble_eq_true rfl) dX4_begin_79 (fun H locs hP hD hS => ?_)
            have hP : va_P D vwCl (wM cI cZ am (tn x0) (tn x1) (zrv 8 dat) (0) (rc) (los) (wai) (set) (bad) (gon) (rep) (sil) (0) (na)) H := hP
            have hD : va_D A (wM cI cZ am (tn x0) (tn x1) (zrv 8 dat) (0) (rc) (los) (wai) (set) (bad) (gon) (rep) (sil) (0) (na)) := hD
            refine lv_aload_n hx hb dX4_begin_82 rfl (lv_at hl 0 rfl) ?_
            refine lv_iconst (v := nI (0)) hx hb dX4_begin_83 (by decide) ?_
            refine va_put (D := D) (ci := 3) (v := .int (nI (0))) (ty := .int) (C := RX4) (T := TX4) (N := 14) hx hb hts iwX4_begin_X4 tyX4 tyX4_ok nmX4 hown hK hP hD hS 0 rfl rfl 4 (by decide) (hts (.fieldLink RX4 42 "RepairSenderModel" "receiverMany" "I") (List.mem_of_getElem? (i := 6) rfl)) (fun _ h9 => h9) rfl (by decide +kernel) rfl rfl (Nat.le_of_ble_eq_true rfl) dX4_begin_84 (fun H locs hP hD hS => ?_)
            have hP : va_P D vwCl (wM cI cZ am (tn x0) (tn x1) (zrv 8 dat) (0) (0) (los) (wai) (set) (bad) (gon) (rep) (sil) (0) (na)) H := hP
            have hD : va_D A (wM cI cZ am (tn x0) (tn x1) (zrv 8 dat) (0) (0) (los) (wai) (set) (bad) (gon) (rep) (sil) (0) (na)) := hD
            refine lv_aload_n hx hb dX4_begin_87 rfl (lv_at hl 0 rfl) ?_
            refine lv_iconst (v := nI (0)) hx hb dX4_begin_88 (by decide) ?_
            refine va_put (D := D) (ci := 3) (v := .int (nI (0))) (ty := .int) (C := RX4) (T := TX4) (N := 14) hx hb hts iwX4_begin_X4 tyX4 tyX4_ok nmX4 hown hK hP hD hS 0 rfl rfl 10 (by decide) (hts (.fieldLink RX4 52 "RepairSenderModel" "reportMany" "I") (List.mem_of_getElem? (i := 7) rfl)) (fun _ h9 => h9) rfl (by decide +kernel) rfl rfl (Nat.le_of_ble_eq_true rfl) dX4_begin_89 (fun H locs hP hD hS => ?_)
            have hP : va_P D vwCl (wM cI cZ am (tn x0) (tn x1) (zrv 8 dat) (0) (0) (los) (wai) (set) (bad) (gon) (0) (sil) (0) (na)) H := hP
            have hD : va_D A (wM cI cZ am (tn x0) (tn x1) (zrv 8 dat) (0) (0) (los) (wai) (set) (bad) (gon) (0) (sil) (0) (na)) := hD
            refine lv_aload_n hx hb dX4_begin_92 rfl (lv_at hl 0 rfl) ?_
            refine lv_iconst (v := nI (0)) hx hb dX4_begin_93 (by decide) ?_
            refine va_put (D := D) (ci := 3) (v := .int (nI (0))) (ty := .int) (C := RX4) (T := TX4) (N := 14) hx hb hts iwX4_begin_X4 tyX4 tyX4_ok nmX4 hown hK hP hD hS 0 rfl rfl 11 (by decide) (hts (.fieldLink RX4 55 "RepairSenderModel" "silentMany" "I") (List.mem_of_getElem? (i := 8) rfl)) (fun _ h9 => h9) rfl (by decide +kernel) rfl rfl (Nat.le_of_ble_eq_true rfl) dX4_begin_94 (fun H locs hP hD hS => ?_)
            have hP : va_P D vwCl (wM cI cZ am (tn x0) (tn x1) (zrv 8 dat) (0) (0) (los) (wai) (set) (bad) (gon) (0) (0) (0) (na)) H := hP
            have hD : va_D A (wM cI cZ am (tn x0) (tn x1) (zrv 8 dat) (0) (0) (los) (wai) (set) (bad) (gon) (0) (0) (0) (na)) := hD
            refine lv_iload_n hx hb dX4_begin_97 rfl (lv_at hl 1 rfl) ?_
            exact W.iret (v := nI (sent)) hx hb hr (fun t ht hW => ⟨⟨_, (wM cI cZ am (tn x0) (tn x1) (zrv 8 dat) (0) (0) (los) (wai) (set) (bad) (gon) (0) (0) (0) (na)), rfl, (by first | exact Or.inl ⟨rfl, by omega, rfl⟩ | exact Or.inr (⟨rfl, by omega, rfl⟩)), by rw [ht]; exact hP, hD⟩, hS.F ht⟩) hS.2.2 dX4_begin_98
          · skip
            refine lv_aload_n hx hb dX4_begin_63 rfl (lv_at hl 0 rfl) ?_
            refine va_get (D := D) (ci := 3) (v := .ref (am 1)) (C := RX4) (T := TX4) (N := 14) hx hb hts iwX4_begin_X4 hown hK hP 0 rfl rfl 2 (by decide) (hts (.fieldLink RX4 7 "RepairSenderModel" "data" "[I") (List.mem_of_getElem? (i := 5) rfl)) (fun _ h9 => h9) rfl dX4_begin_64 ?_
            refine lv_iload hx hb dX4_begin_67 (lv_at hl 2 rfl) ?_
            refine lv_iconst (v := nI (0)) hx hb dX4_begin_69 (by decide) ?_
            refine q_top (show nI (0) = bI (0) from rfl) ?_
            refine q_iastB (f := (zrv i dat)) (j := i) (y := 0) hx hb hK hP hD hS 1 0 rfl rfl (by omega) (by decide) dX4_begin_70 (fun H locs hP hD hS => ?_)
            have hP : va_P D vwCl (wM cI cZ am (tn x0) (tn x1) (ub (zrv i dat) i 0) (sent) (rc) (los) (wai) (set) (bad) (gon) (rep) (sil) (0) (na)) H := hP
            have hD : va_D A (wM cI cZ am (tn x0) (tn x1) (ub (zrv i dat) i 0) (sent) (rc) (los) (wai) (set) (bad) (gon) (rep) (sil) (0) (na)) := hD
            refine lv_iinc (v := nI (i + 1)) (lv' := [(4, .int (nI (i + 1))), (0, .ref (am 0)), (3, .int (nI (sent)))]) hx hb dX4_begin_71 hl (k := 2) rfl (show nI (i) + Int32.ofInt 1 = nI (i + 1) from nI_add (i) 1) (by decide) rfl (fun ls hl => ?_)
            refine lv_goto (tgt := 56) hx hb dX4_begin_74 (by decide) ?_
            have eW : (wM cI cZ am (tn x0) (tn x1) (ub (zrv i dat) i 0) (sent) (rc) (los) (wai) (set) (bad) (gon) (rep) (sil) (0) (na)) = (wM cI cZ am (tn x0) (tn x1) (zrv (i + 1) dat) (sent) (rc) (los) (wai) (set) (bad) (gon) (rep) (sil) (0) (na)) := by rw [zrv_s]
            rw [eW] at hP hD
            clear eW
            exact ih56_4 (i + 1) (by omega) (by omega) _ _ hP hD hS ls (lv_sub hl [1, 2, 0] rfl)
      have eW : (wM cI cZ am (tn x0) (tn x1) (dat) (sent) (rc) (los) (wai) (set) (bad) (gon) (rep) (sil) (0) (na)) = (wM cI cZ am (tn x0) (tn x1) (zrv 0 dat) (sent) (rc) (los) (wai) (set) (bad) (gon) (rep) (sil) (0) (na)) := by rw [zrv_0]
      rw [eW] at hP hD
      clear eW
      exact L56_4 _ (0) (Nat.lt_succ_self _) (by omega) _ _ hP hD hS ls (lv_sub hl [2, 1, 0] rfl)
    · have h_15 : ¬ (1 ≤ x1.toInt ∧ x1.toInt ≤ 20) := h_15
      refine q_if_ne (u := ((0 : Nat) : Int)) (tgt := 25) hx hb dX4_begin_18 (by decide) (nI_toInt (by omega)) (fun c_18 => absurd c_18 (by decide)) (fun _ => ?_)
      refine lv_iconst (v := nI (1)) hx hb dX4_begin_21 (by decide) ?_
      refine lv_goto (tgt := 26) hx hb dX4_begin_22 (by decide) ?_
      refine va_put (D := D) (ci := 3) (v := .int (nI (1))) (ty := .int) (C := RX4) (T := TX4) (N := 14) hx hb hts iwX4_begin_X4 tyX4 tyX4_ok nmX4 hown hK hP hD hS 0 rfl rfl 12 (by decide) (hts (.fieldLink RX4 39 "RepairSenderModel" "thrown" "I") (List.mem_of_getElem? (i := 1) rfl)) (fun _ h9 => h9) rfl (by decide +kernel) rfl rfl (Nat.le_of_ble_eq_true rfl) dX4_begin_26 (fun H locs hP hD hS => ?_)
      have hP : va_P D vwCl (wM cI cZ am (k) (pat) (dat) (sent) (rc) (los) (wai) (set) (bad) (gon) (rep) (sil) (1) (na)) H := hP
      have hD : va_D A (wM cI cZ am (k) (pat) (dat) (sent) (rc) (los) (wai) (set) (bad) (gon) (rep) (sil) (1) (na)) := hD
      refine lv_aload_n hx hb dX4_begin_29 rfl (lv_at hl 0 rfl) ?_
      refine va_get (D := D) (ci := 3) (v := .int (nI (1))) (C := RX4) (T := TX4) (N := 14) hx hb hts iwX4_begin_X4 hown hK hP 0 rfl rfl 12 (by decide) (hts (.fieldLink RX4 39 "RepairSenderModel" "thrown" "I") (List.mem_of_getElem? (i := 1) rfl)) (fun _ h9 => h9) rfl dX4_begin_30 ?_
      refine q_if_le (u := ((1 : Nat) : Int)) (tgt := 38) hx hb dX4_begin_33 (by decide) (nI_toInt (by omega)) (fun c_33 => absurd c_33 (by decide)) (fun _ => ?_)
      refine lv_iconst (v := nI (0)) hx hb dX4_begin_36 (by decide) ?_
      exact W.iret (v := nI (0)) hx hb hr (fun t ht hW => ⟨⟨_, (wM cI cZ am (k) (pat) (dat) (sent) (rc) (los) (wai) (set) (bad) (gon) (rep) (sil) (1) (na)), rfl, (by first | exact Or.inl ⟨rfl, by omega, rfl⟩ | exact Or.inr (⟨rfl, by omega, rfl⟩)), by rw [ht]; exact hP, hD⟩, hS.F ht⟩) hS.2.2 dX4_begin_37
  · have h_5 : ¬ (1 ≤ x0.toInt ∧ x0.toInt ≤ 8) := h_5
    refine q_if_eq (u := ((0 : Nat) : Int)) (tgt := 21) hx hb dX4_begin_8 (by decide) (nI_toInt (by omega)) (fun _ => ?_) (fun c_8 => absurd c_8 (by decide))
    refine lv_iconst (v := nI (1)) hx hb dX4_begin_21 (by decide) ?_
    refine lv_goto (tgt := 26) hx hb dX4_begin_22 (by decide) ?_
    refine va_put (D := D) (ci := 3) (v := .int (nI (1))) (ty := .int) (C := RX4) (T := TX4) (N := 14) hx hb hts iwX4_begin_X4 tyX4 tyX4_ok nmX4 hown hK hP hD hS 0 rfl rfl 12 (by decide) (hts (.fieldLink RX4 39 "RepairSenderModel" "thrown" "I") (List.mem_of_getElem? (i := 1) rfl)) (fun _ h9 => h9) rfl (by decide +kernel) rfl rfl (Nat.le_of_ble_eq_true rfl) dX4_begin_26 (fun H locs hP hD hS => ?_)
    have hP : va_P D vwCl (wM cI cZ am (k) (pat) (dat) (sent) (rc) (los) (wai) (set) (bad) (gon) (rep) (sil) (1) (na)) H := hP
    have hD : va_D A (wM cI cZ am (k) (pat) (dat) (sent) (rc) (los) (wai) (set) (bad) (gon) (rep) (sil) (1) (na)) := hD
    refine lv_aload_n hx hb dX4_begin_29 rfl (lv_at hl 0 rfl) ?_
    refine va_get (D := D) (ci := 3) (v := .int (nI (1))) (C := RX4) (T := TX4) (N := 14) hx hb hts iwX4_begin_X4 hown hK hP 0 rfl rfl 12 (by decide) (hts (.fieldLink RX4 39 "RepairSenderModel" "thrown" "I") (List.mem_of_getElem? (i := 1) rfl)) (fun _ h9 => h9) rfl dX4_begin_30 ?_
    refine q_if_le (u := ((1 : Nat) : Int)) (tgt := 38) hx hb dX4_begin_33 (by decide) (nI_toInt (by omega)) (fun c_33 => absurd c_33 (by decide)) (fun _ => ?_)
    refine lv_iconst (v := nI (0)) hx hb dX4_begin_36 (by decide) ?_
    exact W.iret (v := nI (0)) hx hb hr (fun t ht hW => ⟨⟨_, (wM cI cZ am (k) (pat) (dat) (sent) (rc) (los) (wai) (set) (bad) (gon) (rep) (sil) (1) (na)), rfl, (by first | exact Or.inl ⟨rfl, by omega, rfl⟩ | exact Or.inr (⟨rfl, by omega, rfl⟩)), by rw [ht]; exact hP, hD⟩, hS.F ht⟩) hS.2.2 dX4_begin_37

theorem iwX4_setDatum_X4 : ∀ w ∈ wsX40, w ∈ wsX4_setDatum := by decide +kernel
set_option maxHeartbeats 4000000 in
set_option maxRecDepth 100000 in
theorem c_X4_setDatum (l : Launch) (D : va_G) (cI cZ cQ cL : ClassId) (am : Nat → Nat) (k : Nat) (pat : Nat) (dat : Nat → B8) (sent : Nat) (rc : Nat) (los : Nat → Nat) (wai : Nat → Nat) (set : Nat → Nat) (bad : Nat → Nat) (gon : Nat → Nat) (rep : Nat) (sil : Nat) (thr : Nat) (na : Nat → Nat) (x0 : Int32) (x1 : Int32) (sz : Nat) (hbk : k ≤ 8) (hse : sent ≤ 10000) : Met l yX4_setDatum wsX4_setDatum ({ frames := 1, cells := 0, slots := 0, locals := 22 } : Room) (PW D (TY cI cZ cQ cL) (wM cI cZ am (k) (pat) (dat) (sent) (rc) (los) (wai) (set) (bad) (gon) (rep) (sil) (thr) (na)) sz [.ref (am 0), .int (x0), .int (x1)]) (QI D (va_A (wM cI cZ am (k) (pat) (dat) (sent) (rc) (los) (wai) (set) (bad) (gon) (rep) (sil) (thr) (na)) sz) (fun z9 (u9 : va_W) => (z9 = bI (dat (tn x0)) ∧ ((0 ≤ x0.toInt ∧ x0.toInt < k) ∧ (0 ≤ x1.toInt ∧ x1.toInt ≤ 255) ∧ sent = 0) ∧ u9 = (wM cI cZ am (k) (pat) (ub dat (tn x0) (BitVec.ofNat 8 (tn x1))) (sent) (rc) (los) (wai) (set) (bad) (gon) (rep) (sil) (0) (na))) ∨ (z9 = nI (0) ∧ (¬ (0 ≤ x0.toInt ∧ x0.toInt < k)) ∧ u9 = (wM cI cZ am (k) (pat) (dat) (sent) (rc) (los) (wai) (set) (bad) (gon) (rep) (sil) (1) (na))) ∨ (z9 = nI (0) ∧ ((0 ≤ x0.toInt ∧ x0.toInt < k) ∧ ¬ (0 ≤ x1.toInt ∧ x1.toInt ≤ 255)) ∧ u9 = (wM cI cZ am (k) (pat) (dat) (sent) (rc) (los) (wai) (set) (bad) (gon) (rep) (sil) (2) (na))) ∨ (z9 = nI (0) ∧ ((0 ≤ x0.toInt ∧ x0.toInt < k) ∧ (0 ≤ x1.toInt ∧ x1.toInt ≤ 255) ∧ ¬ sent = 0) ∧ u9 = (wM cI cZ am (k) (pat) (dat) (sent) (rc) (los) (wai) (set) (bad) (gon) (rep) (sil) (3) (na)))) (fun u9 => u9)) 0 0 (va_A (wM cI cZ am (k) (pat) (dat) (sent) (rc) (los) (wai) (set) (bad) (gon) (rep) (sil) (thr) (na)) sz) := by
  refine Met.ofW (cc := cX4_setDatum) (maxL := 4) (ret := (some .int)) (by decide) rfl ?_
  intro p e s m args below meth c s₁ B hml hv
  obtain ⟨rfl, hsz, hP, hK, hD0, hN⟩ := hv
  have hx := B.exec
  have hb := B.bytes
  have hr := B.returns
  have hts := atoms_spec (ws := wsX4_setDatum) B.pre
  have hown : s.vm.findClass RX4 = some m.cls := findClass_of_methodNamed B.named
  have hlocks := B.notSynchronized
  subst hsz
  have hD := hD0.self (sz := s.heap.size)
  generalize hAe : va_A (wM cI cZ am (k) (pat) (dat) (sent) (rc) (los) (wai) (set) (bad) (gon) (rep) (sil) (thr) (na)) s.heap.size = A at hD ⊢
  have hA : ∀ q : Nat, s.heap.size ≤ q → A q := fun q h => by rw [← hAe]; exact Or.inr h
  have hS : va_S A s.heap s.heap [] := va_S.rf
  have hl := lv_entry ([.ref (am 0), .int (x0), .int (x1)]) (n := 4) (Nat.le_of_ble_eq_true rfl)
  rw [lg_entry_eq]
  generalize (lg_sl ([.ref (am 0), .int (x0), .int (x1)]) ++ List.replicate (4 - (lg_sl ([.ref (am 0), .int (x0), .int (x1)])).length) Slot.unset).toArray = ls at hl ⊢
  have hl : lv_has ls 4 [(0, .ref (am 0)), (1, .int (x0)), (2, .int (x1))] := hl
  refine lv_aload_n hx hb dX4_setDatum_0 rfl (lv_at hl 0 rfl) ?_
  refine lv_iload_n hx hb dX4_setDatum_1 rfl (lv_at hl 1 rfl) ?_
  refine lv_iconst (v := nI (0)) hx hb dX4_setDatum_2 (by decide) ?_
  refine lv_aload_n hx hb dX4_setDatum_3 rfl (lv_at hl 0 rfl) ?_
  refine va_get (D := D) (ci := 3) (v := .int (nI (k))) (C := RX4) (T := TX4) (N := 14) hx hb hts iwX4_setDatum_X4 hown hK hP 0 rfl rfl 0 (by decide) (hts (.fieldLink RX4 32 "RepairSenderModel" "size" "I") (List.mem_of_getElem? (i := 1) rfl)) (fun _ h9 => h9) rfl dX4_setDatum_4 ?_
  refine lv_iconst (v := nI (1)) hx hb dX4_setDatum_7 (by decide) ?_
  refine lv_isub hx hb dX4_setDatum_8 ?_
  refine q_csi (va_runS (As := [.int (x0), .int (nI (0)), .int (nI (k) - nI (1))]) (rest := [.ref (am 0)]) ⟨hx, hb, hml, hown, hts⟩ (c_X4_in l (x0) (nI 0) (nI k - nI 1) (0) ((k : Int) - 1) (by decide) (nI_m1i (by omega))) (va_cwS 3 hts gX4_setDatum_X4_in rfl rfl rfl hd_X4_in ⟨Nat.le_of_ble_eq_true rfl, Nat.le_of_ble_eq_true rfl⟩) P0_s rfl rfl hl.1 rfl (lv_room (Nat.le_of_ble_eq_true rfl)) dX4_setDatum_9 ⟨Nat.le_of_ble_eq_true rfl, Nat.le_of_ble_eq_true rfl⟩) (fun r_9 hr_9 => ?_)
  rcases hr_9 with ⟨rfl, h_9⟩ | ⟨rfl, h_9⟩
  · have h_9 : 0 ≤ x0.toInt ∧ x0.toInt ≤ ((k : Int) - 1) := h_9
    refine q_if_ne (u := ((1 : Nat) : Int)) (tgt := 19) hx hb dX4_setDatum_12 (by decide) (nI_toInt (by omega)) (fun _ => ?_) (fun c_12 => absurd c_12 (by decide))
    refine lv_iload_n hx hb dX4_setDatum_19 rfl (lv_at hl 2 rfl) ?_
    refine lv_iconst (v := nI (0)) hx hb dX4_setDatum_20 (by decide) ?_
    refine lv_sipush (v := nI (255)) hx hb dX4_setDatum_21 (by decide) ?_
    refine q_csi (va_runS (As := [.int (x1), .int (nI (0)), .int (nI (255))]) (rest := [.ref (am 0)]) ⟨hx, hb, hml, hown, hts⟩ (c_X4_in l (x1) (nI 0) (nI 255) (0) (255) (by decide) (by decide)) (va_cwS 3 hts gX4_setDatum_X4_in rfl rfl rfl hd_X4_in ⟨Nat.le_of_ble_eq_true rfl, Nat.le_of_ble_eq_true rfl⟩) P0_s rfl rfl hl.1 rfl (lv_room (Nat.le_of_ble_eq_true rfl)) dX4_setDatum_24 ⟨Nat.le_of_ble_eq_true rfl, Nat.le_of_ble_eq_true rfl⟩) (fun r_24 hr_24 => ?_)
    rcases hr_24 with ⟨rfl, h_24⟩ | ⟨rfl, h_24⟩
    · have h_24 : 0 ≤ x1.toInt ∧ x1.toInt ≤ 255 := h_24
      refine q_if_ne (u := ((1 : Nat) : Int)) (tgt := 34) hx hb dX4_setDatum_27 (by decide) (nI_toInt (by omega)) (fun _ => ?_) (fun c_27 => absurd c_27 (by decide))
      refine lv_aload_n hx hb dX4_setDatum_34 rfl (lv_at hl 0 rfl) ?_
      refine va_get (D := D) (ci := 3) (v := .int (nI (sent))) (C := RX4) (T := TX4) (N := 14) hx hb hts iwX4_setDatum_X4 hown hK hP 0 rfl rfl 3 (by decide) (hts (.fieldLink RX4 49 "RepairSenderModel" "sentMany" "I") (List.mem_of_getElem? (i := 2) rfl)) (fun _ h9 => h9) rfl dX4_setDatum_35 ?_
      refine q_if_le (u := ((sent : Nat) : Int)) (tgt := 45) hx hb dX4_setDatum_38 (by decide) (nI_toInt (by omega)) (fun c_38 => ?_) (fun c_38 => ?_)
      · skip
        refine lv_iconst (v := nI (0)) hx hb dX4_setDatum_45 (by decide) ?_
        refine va_put (D := D) (ci := 3) (v := .int (nI (0))) (ty := .int) (C := RX4) (T := TX4) (N := 14) hx hb hts iwX4_setDatum_X4 tyX4 tyX4_ok nmX4 hown hK hP hD hS 0 rfl rfl 12 (by decide) (hts (.fieldLink RX4 39 "RepairSenderModel" "thrown" "I") (List.mem_of_getElem? (i := 3) rfl)) (fun _ h9 => h9) rfl (by decide +kernel) rfl rfl (Nat.le_of_ble_eq_true rfl) dX4_setDatum_46 (fun H locs hP hD hS => ?_)
        have hP : va_P D vwCl (wM cI cZ am (k) (pat) (dat) (sent) (rc) (los) (wai) (set) (bad) (gon) (rep) (sil) (0) (na)) H := hP
        have hD : va_D A (wM cI cZ am (k) (pat) (dat) (sent) (rc) (los) (wai) (set) (bad) (gon) (rep) (sil) (0) (na)) := hD
        refine lv_aload_n hx hb dX4_setDatum_49 rfl (lv_at hl 0 rfl) ?_
        refine va_get (D := D) (ci := 3) (v := .int (nI (0))) (C := RX4) (T := TX4) (N := 14) hx hb hts iwX4_setDatum_X4 hown hK hP 0 rfl rfl 12 (by decide) (hts (.fieldLink RX4 39 "RepairSenderModel" "thrown" "I") (List.mem_of_getElem? (i := 3) rfl)) (fun _ h9 => h9) rfl dX4_setDatum_50 ?_
        refine q_if_le (u := ((0 : Nat) : Int)) (tgt := 58) hx hb dX4_setDatum_53 (by decide) (nI_toInt (by omega)) (fun _ => ?_) (fun c_53 => absurd c_53 (by decide))
        have ht_x0 := tn_i (x := x0) (by omega)
        have ht_x1 := tn_i (x := x1) (by omega)
        refine lv_aload_n hx hb dX4_setDatum_58 rfl (lv_at hl 0 rfl) ?_
        refine va_get (D := D) (ci := 3) (v := .ref (am 1)) (C := RX4) (T := TX4) (N := 14) hx hb hts iwX4_setDatum_X4 hown hK hP 0 rfl rfl 2 (by decide) (hts (.fieldLink RX4 7 "RepairSenderModel" "data" "[I") (List.mem_of_getElem? (i := 4) rfl)) (fun _ h9 => h9) rfl dX4_setDatum_59 ?_
        refine lv_iload_n hx hb dX4_setDatum_62 rfl (lv_at hl 1 rfl) ?_
        refine q_top (show (x0) = nI (tn x0) from tn_I (by omega)) ?_
        refine q_ialdB (f := dat) (j := tn x0) hx hb hK hP 1 0 rfl rfl (by omega) (by decide) dX4_setDatum_63 ?_
        refine lv_istore_n (lv' := [(3, .int (bI (dat (tn x0)))), (0, .ref (am 0)), (1, .int (x0)), (2, .int (x1))]) hx hb dX4_setDatum_64 rfl hl (by decide) rfl (fun ls hl => ?_)
        refine lv_aload_n hx hb dX4_setDatum_65 rfl (lv_at hl 1 rfl) ?_
        refine va_get (D := D) (ci := 3) (v := .ref (am 1)) (C := RX4) (T := TX4) (N := 14) hx hb hts iwX4_setDatum_X4 hown hK hP 0 rfl rfl 2 (by decide) (hts (.fieldLink RX4 7 "RepairSenderModel" "data" "[I") (List.mem_of_getElem? (i := 4) rfl)) (fun _ h9 => h9) rfl dX4_setDatum_66 ?_
        refine lv_iload_n hx hb dX4_setDatum_69 rfl (lv_at hl 2 rfl) ?_
        refine q_top (show (x0) = nI (tn x0) from tn_I (by omega)) ?_
        refine lv_iload_n hx hb dX4_setDatum_70 rfl (lv_at hl 3 rfl) ?_
        refine q_top (show (x1) = bI (BitVec.ofNat 8 (tn x1)) from tn_B (by omega) (by omega)) ?_
        refine q_iastB (f := dat) (j := tn x0) (y := BitVec.ofNat 8 (tn x1)) hx hb hK hP hD hS 1 0 rfl rfl (by omega) (by decide) dX4_setDatum_71 (fun H locs hP hD hS => ?_)
        have hP : va_P D vwCl (wM cI cZ am (k) (pat) (ub dat (tn x0) (BitVec.ofNat 8 (tn x1))) (sent) (rc) (los) (wai) (set) (bad) (gon) (rep) (sil) (0) (na)) H := hP
        have hD : va_D A (wM cI cZ am (k) (pat) (ub dat (tn x0) (BitVec.ofNat 8 (tn x1))) (sent) (rc) (los) (wai) (set) (bad) (gon) (rep) (sil) (0) (na)) := hD
        refine lv_iload_n hx hb dX4_setDatum_72 rfl (lv_at hl 0 rfl) ?_
        exact W.iret (v := bI (dat (tn x0))) hx hb hr (fun t ht hW => ⟨⟨_, (wM cI cZ am (k) (pat) (ub dat (tn x0) (BitVec.ofNat 8 (tn x1))) (sent) (rc) (los) (wai) (set) (bad) (gon) (rep) (sil) (0) (na)), rfl, (by first | exact Or.inl ⟨rfl, by omega, rfl⟩ | exact Or.inr (Or.inl ⟨rfl, by omega, rfl⟩) | exact Or.inr (Or.inr (Or.inl ⟨rfl, by omega, rfl⟩)) | exact Or.inr (Or.inr (Or.inr (⟨rfl, by omega, rfl⟩)))), by rw [ht]; exact hP, hD⟩, hS.F ht⟩) hS.2.2 dX4_setDatum_73
      · skip
        refine lv_iconst (v := nI (3)) hx hb dX4_setDatum_41 (by decide) ?_
        refine lv_goto (tgt := 46) hx hb dX4_setDatum_42 (by decide) ?_
        refine va_put (D := D) (ci := 3) (v := .int (nI (3))) (ty := .int) (C := RX4) (T := TX4) (N := 14) hx hb hts iwX4_setDatum_X4 tyX4 tyX4_ok nmX4 hown hK hP hD hS 0 rfl rfl 12 (by decide) (hts (.fieldLink RX4 39 "RepairSenderModel" "thrown" "I") (List.mem_of_getElem? (i := 3) rfl)) (fun _ h9 => h9) rfl (by decide +kernel) rfl rfl (Nat.le_of_ble_eq_true rfl) dX4_setDatum_46 (fun H locs hP hD hS => ?_)
        have hP : va_P D vwCl (wM cI cZ am (k) (pat) (dat) (sent) (rc) (los) (wai) (set) (bad) (gon) (rep) (sil) (3) (na)) H := hP
        have hD : va_D A (wM cI cZ am (k) (pat) (dat) (sent) (rc) (los) (wai) (set) (bad) (gon) (rep) (sil) (3) (na)) := hD
        refine lv_aload_n hx hb dX4_setDatum_49 rfl (lv_at hl 0 rfl) ?_
        refine va_get (D := D) (ci := 3) (v := .int (nI (3))) (C := RX4) (T := TX4) (N := 14) hx hb hts iwX4_setDatum_X4 hown hK hP 0 rfl rfl 12 (by decide) (hts (.fieldLink RX4 39 "RepairSenderModel" "thrown" "I") (List.mem_of_getElem? (i := 3) rfl)) (fun _ h9 => h9) rfl dX4_setDatum_50 ?_
        refine q_if_le (u := ((3 : Nat) : Int)) (tgt := 58) hx hb dX4_setDatum_53 (by decide) (nI_toInt (by omega)) (fun c_53 => absurd c_53 (by decide)) (fun _ => ?_)
        refine lv_iconst (v := nI (0)) hx hb dX4_setDatum_56 (by decide) ?_
        exact W.iret (v := nI (0)) hx hb hr (fun t ht hW => ⟨⟨_, (wM cI cZ am (k) (pat) (dat) (sent) (rc) (los) (wai) (set) (bad) (gon) (rep) (sil) (3) (na)), rfl, (by first | exact Or.inl ⟨rfl, by omega, rfl⟩ | exact Or.inr (Or.inl ⟨rfl, by omega, rfl⟩) | exact Or.inr (Or.inr (Or.inl ⟨rfl, by omega, rfl⟩)) | exact Or.inr (Or.inr (Or.inr (⟨rfl, by omega, rfl⟩)))), by rw [ht]; exact hP, hD⟩, hS.F ht⟩) hS.2.2 dX4_setDatum_57
    · have h_24 : ¬ (0 ≤ x1.toInt ∧ x1.toInt ≤ 255) := h_24
      refine q_if_ne (u := ((0 : Nat) : Int)) (tgt := 34) hx hb dX4_setDatum_27 (by decide) (nI_toInt (by omega)) (fun c_27 => absurd c_27 (by decide)) (fun _ => ?_)
      refine lv_iconst (v := nI (2)) hx hb dX4_setDatum_30 (by decide) ?_
      refine lv_goto (tgt := 46) hx hb dX4_setDatum_31 (by decide) ?_
      refine va_put (D := D) (ci := 3) (v := .int (nI (2))) (ty := .int) (C := RX4) (T := TX4) (N := 14) hx hb hts iwX4_setDatum_X4 tyX4 tyX4_ok nmX4 hown hK hP hD hS 0 rfl rfl 12 (by decide) (hts (.fieldLink RX4 39 "RepairSenderModel" "thrown" "I") (List.mem_of_getElem? (i := 3) rfl)) (fun _ h9 => h9) rfl (by decide +kernel) rfl rfl (Nat.le_of_ble_eq_true rfl) dX4_setDatum_46 (fun H locs hP hD hS => ?_)
      have hP : va_P D vwCl (wM cI cZ am (k) (pat) (dat) (sent) (rc) (los) (wai) (set) (bad) (gon) (rep) (sil) (2) (na)) H := hP
      have hD : va_D A (wM cI cZ am (k) (pat) (dat) (sent) (rc) (los) (wai) (set) (bad) (gon) (rep) (sil) (2) (na)) := hD
      refine lv_aload_n hx hb dX4_setDatum_49 rfl (lv_at hl 0 rfl) ?_
      refine va_get (D := D) (ci := 3) (v := .int (nI (2))) (C := RX4) (T := TX4) (N := 14) hx hb hts iwX4_setDatum_X4 hown hK hP 0 rfl rfl 12 (by decide) (hts (.fieldLink RX4 39 "RepairSenderModel" "thrown" "I") (List.mem_of_getElem? (i := 3) rfl)) (fun _ h9 => h9) rfl dX4_setDatum_50 ?_
      refine q_if_le (u := ((2 : Nat) : Int)) (tgt := 58) hx hb dX4_setDatum_53 (by decide) (nI_toInt (by omega)) (fun c_53 => absurd c_53 (by decide)) (fun _ => ?_)
      refine lv_iconst (v := nI (0)) hx hb dX4_setDatum_56 (by decide) ?_
      exact W.iret (v := nI (0)) hx hb hr (fun t ht hW => ⟨⟨_, (wM cI cZ am (k) (pat) (dat) (sent) (rc) (los) (wai) (set) (bad) (gon) (rep) (sil) (2) (na)), rfl, (by first | exact Or.inl ⟨rfl, by omega, rfl⟩ | exact Or.inr (Or.inl ⟨rfl, by omega, rfl⟩) | exact Or.inr (Or.inr (Or.inl ⟨rfl, by omega, rfl⟩)) | exact Or.inr (Or.inr (Or.inr (⟨rfl, by omega, rfl⟩)))), by rw [ht]; exact hP, hD⟩, hS.F ht⟩) hS.2.2 dX4_setDatum_57
  · have h_9 : ¬ (0 ≤ x0.toInt ∧ x0.toInt ≤ ((k : Int) - 1)) := h_9
    refine q_if_ne (u := ((0 : Nat) : Int)) (tgt := 19) hx hb dX4_setDatum_12 (by decide) (nI_toInt (by omega)) (fun c_12 => absurd c_12 (by decide)) (fun _ => ?_)
    refine lv_iconst (v := nI (1)) hx hb dX4_setDatum_15 (by decide) ?_
    refine lv_goto (tgt := 46) hx hb dX4_setDatum_16 (by decide) ?_
    refine va_put (D := D) (ci := 3) (v := .int (nI (1))) (ty := .int) (C := RX4) (T := TX4) (N := 14) hx hb hts iwX4_setDatum_X4 tyX4 tyX4_ok nmX4 hown hK hP hD hS 0 rfl rfl 12 (by decide) (hts (.fieldLink RX4 39 "RepairSenderModel" "thrown" "I") (List.mem_of_getElem? (i := 3) rfl)) (fun _ h9 => h9) rfl (by decide +kernel) rfl rfl (Nat.le_of_ble_eq_true rfl) dX4_setDatum_46 (fun H locs hP hD hS => ?_)
    have hP : va_P D vwCl (wM cI cZ am (k) (pat) (dat) (sent) (rc) (los) (wai) (set) (bad) (gon) (rep) (sil) (1) (na)) H := hP
    have hD : va_D A (wM cI cZ am (k) (pat) (dat) (sent) (rc) (los) (wai) (set) (bad) (gon) (rep) (sil) (1) (na)) := hD
    refine lv_aload_n hx hb dX4_setDatum_49 rfl (lv_at hl 0 rfl) ?_
    refine va_get (D := D) (ci := 3) (v := .int (nI (1))) (C := RX4) (T := TX4) (N := 14) hx hb hts iwX4_setDatum_X4 hown hK hP 0 rfl rfl 12 (by decide) (hts (.fieldLink RX4 39 "RepairSenderModel" "thrown" "I") (List.mem_of_getElem? (i := 3) rfl)) (fun _ h9 => h9) rfl dX4_setDatum_50 ?_
    refine q_if_le (u := ((1 : Nat) : Int)) (tgt := 58) hx hb dX4_setDatum_53 (by decide) (nI_toInt (by omega)) (fun c_53 => absurd c_53 (by decide)) (fun _ => ?_)
    refine lv_iconst (v := nI (0)) hx hb dX4_setDatum_56 (by decide) ?_
    exact W.iret (v := nI (0)) hx hb hr (fun t ht hW => ⟨⟨_, (wM cI cZ am (k) (pat) (dat) (sent) (rc) (los) (wai) (set) (bad) (gon) (rep) (sil) (1) (na)), rfl, (by first | exact Or.inl ⟨rfl, by omega, rfl⟩ | exact Or.inr (Or.inl ⟨rfl, by omega, rfl⟩) | exact Or.inr (Or.inr (Or.inl ⟨rfl, by omega, rfl⟩)) | exact Or.inr (Or.inr (Or.inr (⟨rfl, by omega, rfl⟩)))), by rw [ht]; exact hP, hD⟩, hS.F ht⟩) hS.2.2 dX4_setDatum_57

theorem iwX4_join_X4 : ∀ w ∈ wsX40, w ∈ wsX4_join := by decide +kernel
set_option maxHeartbeats 4000000 in
set_option maxRecDepth 100000 in
theorem c_X4_join (l : Launch) (D : va_G) (cI cZ cQ cL : ClassId) (am : Nat → Nat) (k : Nat) (pat : Nat) (dat : Nat → B8) (sent : Nat) (rc : Nat) (los : Nat → Nat) (wai : Nat → Nat) (set : Nat → Nat) (bad : Nat → Nat) (gon : Nat → Nat) (rep : Nat) (sil : Nat) (thr : Nat) (na : Nat → Nat) (x0 : Int32) (x1 : Int32) (sz : Nat) (hrc : rc ≤ 6) : Met l yX4_join wsX4_join ({ frames := 1, cells := 0, slots := 0, locals := 22 } : Room) (PW D (TY cI cZ cQ cL) (wM cI cZ am (k) (pat) (dat) (sent) (rc) (los) (wai) (set) (bad) (gon) (rep) (sil) (thr) (na)) sz [.ref (am 0), .int (x0), .int (x1)]) (QI D (va_A (wM cI cZ am (k) (pat) (dat) (sent) (rc) (los) (wai) (set) (bad) (gon) (rep) (sil) (thr) (na)) sz) (fun z9 (u9 : va_W) => (z9 = nI (rc + 1 - 1) ∧ ((0 ≤ x0.toInt ∧ x0.toInt ≤ 2047) ∧ (0 ≤ x1.toInt ∧ x1.toInt ≤ 20) ∧ rc < 6) ∧ u9 = (wM cI cZ am (k) (pat) (dat) (sent) (rc + 1) (un los rc (tn x0)) (un wai rc (tn x1)) (un set rc 0) (un bad rc 0) (un gon rc 0) (rep) (sil) (0) (na))) ∨ (z9 = nI (0) ∧ (¬ ((0 ≤ x0.toInt ∧ x0.toInt ≤ 2047) ∧ (0 ≤ x1.toInt ∧ x1.toInt ≤ 20))) ∧ u9 = (wM cI cZ am (k) (pat) (dat) (sent) (rc) (los) (wai) (set) (bad) (gon) (rep) (sil) (1) (na))) ∨ (z9 = nI (0) ∧ (((0 ≤ x0.toInt ∧ x0.toInt ≤ 2047) ∧ (0 ≤ x1.toInt ∧ x1.toInt ≤ 20)) ∧ ¬ rc < 6) ∧ u9 = (wM cI cZ am (k) (pat) (dat) (sent) (rc) (los) (wai) (set) (bad) (gon) (rep) (sil) (2) (na)))) (fun u9 => u9)) 0 0 (va_A (wM cI cZ am (k) (pat) (dat) (sent) (rc) (los) (wai) (set) (bad) (gon) (rep) (sil) (thr) (na)) sz) := by
  refine Met.ofW (cc := cX4_join) (maxL := 3) (ret := (some .int)) (by decide) rfl ?_
  intro p e s m args below meth c s₁ B hml hv
  obtain ⟨rfl, hsz, hP, hK, hD0, hN⟩ := hv
  have hx := B.exec
  have hb := B.bytes
  have hr := B.returns
  have hts := atoms_spec (ws := wsX4_join) B.pre
  have hown : s.vm.findClass RX4 = some m.cls := findClass_of_methodNamed B.named
  have hlocks := B.notSynchronized
  subst hsz
  have hD := hD0.self (sz := s.heap.size)
  generalize hAe : va_A (wM cI cZ am (k) (pat) (dat) (sent) (rc) (los) (wai) (set) (bad) (gon) (rep) (sil) (thr) (na)) s.heap.size = A at hD ⊢
  have hA : ∀ q : Nat, s.heap.size ≤ q → A q := fun q h => by rw [← hAe]; exact Or.inr h
  have hS : va_S A s.heap s.heap [] := va_S.rf
  have hl := lv_entry ([.ref (am 0), .int (x0), .int (x1)]) (n := 3) (Nat.le_of_ble_eq_true rfl)
  rw [lg_entry_eq]
  generalize (lg_sl ([.ref (am 0), .int (x0), .int (x1)]) ++ List.replicate (3 - (lg_sl ([.ref (am 0), .int (x0), .int (x1)])).length) Slot.unset).toArray = ls at hl ⊢
  have hl : lv_has ls 3 [(0, .ref (am 0)), (1, .int (x0)), (2, .int (x1))] := hl
  refine lv_aload_n hx hb dX4_join_0 rfl (lv_at hl 0 rfl) ?_
  refine lv_iload_n hx hb dX4_join_1 rfl (lv_at hl 1 rfl) ?_
  refine lv_iconst (v := nI (0)) hx hb dX4_join_2 (by decide) ?_
  refine lv_sipush (v := nI (2047)) hx hb dX4_join_3 (by decide) ?_
  refine q_csi (va_runS (As := [.int (x0), .int (nI (0)), .int (nI (2047))]) (rest := [.ref (am 0)]) ⟨hx, hb, hml, hown, hts⟩ (c_X4_in l (x0) (nI 0) (nI 2047) (0) (2047) (by decide) (by decide)) (va_cwS 3 hts gX4_join_X4_in rfl rfl rfl hd_X4_in ⟨Nat.le_of_ble_eq_true rfl, Nat.le_of_ble_eq_true rfl⟩) P0_s rfl rfl hl.1 rfl (lv_room (Nat.le_of_ble_eq_true rfl)) dX4_join_6 ⟨Nat.le_of_ble_eq_true rfl, Nat.le_of_ble_eq_true rfl⟩) (fun r_6 hr_6 => ?_)
  rcases hr_6 with ⟨rfl, h_6⟩ | ⟨rfl, h_6⟩
  · have h_6 : 0 ≤ x0.toInt ∧ x0.toInt ≤ 2047 := h_6
    refine q_if_eq (u := ((1 : Nat) : Int)) (tgt := 22) hx hb dX4_join_9 (by decide) (nI_toInt (by omega)) (fun c_9 => absurd c_9 (by decide)) (fun _ => ?_)
    refine lv_iload_n hx hb dX4_join_12 rfl (lv_at hl 2 rfl) ?_
    refine lv_iconst (v := nI (0)) hx hb dX4_join_13 (by decide) ?_
    refine lv_bipush (v := nI (20)) hx hb dX4_join_14 (by decide) ?_
    refine q_csi (va_runS (As := [.int (x1), .int (nI (0)), .int (nI (20))]) (rest := [.ref (am 0)]) ⟨hx, hb, hml, hown, hts⟩ (c_X4_in l (x1) (nI 0) (nI 20) (0) (20) (by decide) (by decide)) (va_cwS 3 hts gX4_join_X4_in rfl rfl rfl hd_X4_in ⟨Nat.le_of_ble_eq_true rfl, Nat.le_of_ble_eq_true rfl⟩) P0_s rfl rfl hl.1 rfl (lv_room (Nat.le_of_ble_eq_true rfl)) dX4_join_16 ⟨Nat.le_of_ble_eq_true rfl, Nat.le_of_ble_eq_true rfl⟩) (fun r_16 hr_16 => ?_)
    rcases hr_16 with ⟨rfl, h_16⟩ | ⟨rfl, h_16⟩
    · have h_16 : 0 ≤ x1.toInt ∧ x1.toInt ≤ 20 := h_16
      refine q_if_ne (u := ((1 : Nat) : Int)) (tgt := 26) hx hb dX4_join_19 (by decide) (nI_toInt (by omega)) (fun _ => ?_) (fun c_19 => absurd c_19 (by decide))
      refine lv_aload_n hx hb dX4_join_26 rfl (lv_at hl 0 rfl) ?_
      refine va_get (D := D) (ci := 3) (v := .int (nI (rc))) (C := RX4) (T := TX4) (N := 14) hx hb hts iwX4_join_X4 hown hK hP 0 rfl rfl 4 (by decide) (hts (.fieldLink RX4 42 "RepairSenderModel" "receiverMany" "I") (List.mem_of_getElem? (i := 1) rfl)) (fun _ h9 => h9) rfl dX4_join_27 ?_
      refine lv_bipush (v := nI (6)) hx hb dX4_join_30 (by decide) ?_
      refine q_icmp_ne (u := ((rc : Nat) : Int)) (v := ((6 : Nat) : Int)) (tgt := 39) hx hb dX4_join_32 (by decide) (nI_toInt (by omega)) (nI_toInt (by omega)) (fun c_32 => ?_) (fun c_32 => ?_)
      · skip
        refine lv_iconst (v := nI (0)) hx hb dX4_join_39 (by decide) ?_
        refine va_put (D := D) (ci := 3) (v := .int (nI (0))) (ty := .int) (C := RX4) (T := TX4) (N := 14) hx hb hts iwX4_join_X4 tyX4 tyX4_ok nmX4 hown hK hP hD hS 0 rfl rfl 12 (by decide) (hts (.fieldLink RX4 39 "RepairSenderModel" "thrown" "I") (List.mem_of_getElem? (i := 2) rfl)) (fun _ h9 => h9) rfl (by decide +kernel) rfl rfl (Nat.le_of_ble_eq_true rfl) dX4_join_40 (fun H locs hP hD hS => ?_)
        have hP : va_P D vwCl (wM cI cZ am (k) (pat) (dat) (sent) (rc) (los) (wai) (set) (bad) (gon) (rep) (sil) (0) (na)) H := hP
        have hD : va_D A (wM cI cZ am (k) (pat) (dat) (sent) (rc) (los) (wai) (set) (bad) (gon) (rep) (sil) (0) (na)) := hD
        refine lv_aload_n hx hb dX4_join_43 rfl (lv_at hl 0 rfl) ?_
        refine va_get (D := D) (ci := 3) (v := .int (nI (0))) (C := RX4) (T := TX4) (N := 14) hx hb hts iwX4_join_X4 hown hK hP 0 rfl rfl 12 (by decide) (hts (.fieldLink RX4 39 "RepairSenderModel" "thrown" "I") (List.mem_of_getElem? (i := 2) rfl)) (fun _ h9 => h9) rfl dX4_join_44 ?_
        refine q_if_le (u := ((0 : Nat) : Int)) (tgt := 52) hx hb dX4_join_47 (by decide) (nI_toInt (by omega)) (fun _ => ?_) (fun c_47 => absurd c_47 (by decide))
        have ht_x0 := tn_i (x := x0) (by omega)
        have ht_x1 := tn_i (x := x1) (by omega)
        refine lv_aload_n hx hb dX4_join_52 rfl (lv_at hl 0 rfl) ?_
        refine va_get (D := D) (ci := 3) (v := .ref (am 2)) (C := RX4) (T := TX4) (N := 14) hx hb hts iwX4_join_X4 hown hK hP 0 rfl rfl 5 (by decide) (hts (.fieldLink RX4 13 "RepairSenderModel" "lossesOf" "[I") (List.mem_of_getElem? (i := 3) rfl)) (fun _ h9 => h9) rfl dX4_join_53 ?_
        refine lv_aload_n hx hb dX4_join_56 rfl (lv_at hl 0 rfl) ?_
        refine va_get (D := D) (ci := 3) (v := .int (nI (rc))) (C := RX4) (T := TX4) (N := 14) hx hb hts iwX4_join_X4 hown hK hP 0 rfl rfl 4 (by decide) (hts (.fieldLink RX4 42 "RepairSenderModel" "receiverMany" "I") (List.mem_of_getElem? (i := 1) rfl)) (fun _ h9 => h9) rfl dX4_join_57 ?_
        refine lv_iload_n hx hb dX4_join_60 rfl (lv_at hl 1 rfl) ?_
        refine q_top (show (x0) = nI (tn x0) from tn_I (by omega)) ?_
        refine q_iast (f := los) (j := rc) (y := tn x0) hx hb hK hP hD hS 2 0 rfl rfl (by omega) (by decide) dX4_join_61 (fun H locs hP hD hS => ?_)
        have hP : va_P D vwCl (wM cI cZ am (k) (pat) (dat) (sent) (rc) (un los rc (tn x0)) (wai) (set) (bad) (gon) (rep) (sil) (0) (na)) H := hP
        have hD : va_D A (wM cI cZ am (k) (pat) (dat) (sent) (rc) (un los rc (tn x0)) (wai) (set) (bad) (gon) (rep) (sil) (0) (na)) := hD
        refine lv_aload_n hx hb dX4_join_62 rfl (lv_at hl 0 rfl) ?_
        refine va_get (D := D) (ci := 3) (v := .ref (am 3)) (C := RX4) (T := TX4) (N := 14) hx hb hts iwX4_join_X4 hown hK hP 0 rfl rfl 6 (by decide) (hts (.fieldLink RX4 16 "RepairSenderModel" "waits" "[I") (List.mem_of_getElem? (i := 4) rfl)) (fun _ h9 => h9) rfl dX4_join_63 ?_
        refine lv_aload_n hx hb dX4_join_66 rfl (lv_at hl 0 rfl) ?_
        refine va_get (D := D) (ci := 3) (v := .int (nI (rc))) (C := RX4) (T := TX4) (N := 14) hx hb hts iwX4_join_X4 hown hK hP 0 rfl rfl 4 (by decide) (hts (.fieldLink RX4 42 "RepairSenderModel" "receiverMany" "I") (List.mem_of_getElem? (i := 1) rfl)) (fun _ h9 => h9) rfl dX4_join_67 ?_
        refine lv_iload_n hx hb dX4_join_70 rfl (lv_at hl 2 rfl) ?_
        refine q_top (show (x1) = nI (tn x1) from tn_I (by omega)) ?_
        refine q_iast (f := wai) (j := rc) (y := tn x1) hx hb hK hP hD hS 3 0 rfl rfl (by omega) (by decide) dX4_join_71 (fun H locs hP hD hS => ?_)
        have hP : va_P D vwCl (wM cI cZ am (k) (pat) (dat) (sent) (rc) (un los rc (tn x0)) (un wai rc (tn x1)) (set) (bad) (gon) (rep) (sil) (0) (na)) H := hP
        have hD : va_D A (wM cI cZ am (k) (pat) (dat) (sent) (rc) (un los rc (tn x0)) (un wai rc (tn x1)) (set) (bad) (gon) (rep) (sil) (0) (na)) := hD
        refine lv_aload_n hx hb dX4_join_72 rfl (lv_at hl 0 rfl) ?_
        refine va_get (D := D) (ci := 3) (v := .ref (am 4)) (C := RX4) (T := TX4) (N := 14) hx hb hts iwX4_join_X4 hown hK hP 0 rfl rfl 7 (by decide) (hts (.fieldLink RX4 19 "RepairSenderModel" "sets" "[I") (List.mem_of_getElem? (i := 5) rfl)) (fun _ h9 => h9) rfl dX4_join_73 ?_
        refine lv_aload_n hx hb dX4_join_76 rfl (lv_at hl 0 rfl) ?_
        refine va_get (D := D) (ci := 3) (v := .int (nI (rc))) (C := RX4) (T := TX4) (N := 14) hx hb hts iwX4_join_X4 hown hK hP 0 rfl rfl 4 (by decide) (hts (.fieldLink RX4 42 "RepairSenderModel" "receiverMany" "I") (List.mem_of_getElem? (i := 1) rfl)) (fun _ h9 => h9) rfl dX4_join_77 ?_
        refine lv_iconst (v := nI (0)) hx hb dX4_join_80 (by decide) ?_
        refine q_iast (f := set) (j := rc) (y := 0) hx hb hK hP hD hS 4 0 rfl rfl (by omega) (by decide) dX4_join_81 (fun H locs hP hD hS => ?_)
        have hP : va_P D vwCl (wM cI cZ am (k) (pat) (dat) (sent) (rc) (un los rc (tn x0)) (un wai rc (tn x1)) (un set rc 0) (bad) (gon) (rep) (sil) (0) (na)) H := hP
        have hD : va_D A (wM cI cZ am (k) (pat) (dat) (sent) (rc) (un los rc (tn x0)) (un wai rc (tn x1)) (un set rc 0) (bad) (gon) (rep) (sil) (0) (na)) := hD
        refine lv_aload_n hx hb dX4_join_82 rfl (lv_at hl 0 rfl) ?_
        refine va_get (D := D) (ci := 3) (v := .ref (am 5)) (C := RX4) (T := TX4) (N := 14) hx hb hts iwX4_join_X4 hown hK hP 0 rfl rfl 8 (by decide) (hts (.fieldLink RX4 22 "RepairSenderModel" "bads" "[I") (List.mem_of_getElem? (i := 6) rfl)) (fun _ h9 => h9) rfl dX4_join_83 ?_
        refine lv_aload_n hx hb dX4_join_86 rfl (lv_at hl 0 rfl) ?_
        refine va_get (D := D) (ci := 3) (v := .int (nI (rc))) (C := RX4) (T := TX4) (N := 14) hx hb hts iwX4_join_X4 hown hK hP 0 rfl rfl 4 (by decide) (hts (.fieldLink RX4 42 "RepairSenderModel" "receiverMany" "I") (List.mem_of_getElem? (i := 1) rfl)) (fun _ h9 => h9) rfl dX4_join_87 ?_
        refine lv_iconst (v := nI (0)) hx hb dX4_join_90 (by decide) ?_
        refine q_iast (f := bad) (j := rc) (y := 0) hx hb hK hP hD hS 5 0 rfl rfl (by omega) (by decide) dX4_join_91 (fun H locs hP hD hS => ?_)
        have hP : va_P D vwCl (wM cI cZ am (k) (pat) (dat) (sent) (rc) (un los rc (tn x0)) (un wai rc (tn x1)) (un set rc 0) (un bad rc 0) (gon) (rep) (sil) (0) (na)) H := hP
        have hD : va_D A (wM cI cZ am (k) (pat) (dat) (sent) (rc) (un los rc (tn x0)) (un wai rc (tn x1)) (un set rc 0) (un bad rc 0) (gon) (rep) (sil) (0) (na)) := hD
        refine lv_aload_n hx hb dX4_join_92 rfl (lv_at hl 0 rfl) ?_
        refine va_get (D := D) (ci := 3) (v := .ref (am 6)) (C := RX4) (T := TX4) (N := 14) hx hb hts iwX4_join_X4 hown hK hP 0 rfl rfl 9 (by decide) (hts (.fieldLink RX4 25 "RepairSenderModel" "isGone" "[Z") (List.mem_of_getElem? (i := 7) rfl)) (fun _ h9 => h9) rfl dX4_join_93 ?_
        refine lv_aload_n hx hb dX4_join_96 rfl (lv_at hl 0 rfl) ?_
        refine va_get (D := D) (ci := 3) (v := .int (nI (rc))) (C := RX4) (T := TX4) (N := 14) hx hb hts iwX4_join_X4 hown hK hP 0 rfl rfl 4 (by decide) (hts (.fieldLink RX4 42 "RepairSenderModel" "receiverMany" "I") (List.mem_of_getElem? (i := 1) rfl)) (fun _ h9 => h9) rfl dX4_join_97 ?_
        refine lv_iconst (v := nI (0)) hx hb dX4_join_100 (by decide) ?_
        refine q_zast (f := gon) (j := rc) (y := 0) hx hb hK hP hD hS 6 1 rfl rfl (by omega) (by decide) (by omega) dX4_join_101 (fun H locs hP hD hS => ?_)
        have hP : va_P D vwCl (wM cI cZ am (k) (pat) (dat) (sent) (rc) (un los rc (tn x0)) (un wai rc (tn x1)) (un set rc 0) (un bad rc 0) (un gon rc 0) (rep) (sil) (0) (na)) H := hP
        have hD : va_D A (wM cI cZ am (k) (pat) (dat) (sent) (rc) (un los rc (tn x0)) (un wai rc (tn x1)) (un set rc 0) (un bad rc 0) (un gon rc 0) (rep) (sil) (0) (na)) := hD
        refine lv_aload_n hx hb dX4_join_102 rfl (lv_at hl 0 rfl) ?_
        refine lv_dup hx hb dX4_join_103 rfl ?_
        refine va_get (D := D) (ci := 3) (v := .int (nI (rc))) (C := RX4) (T := TX4) (N := 14) hx hb hts iwX4_join_X4 hown hK hP 0 rfl rfl 4 (by decide) (hts (.fieldLink RX4 42 "RepairSenderModel" "receiverMany" "I") (List.mem_of_getElem? (i := 1) rfl)) (fun _ h9 => h9) rfl dX4_join_104 ?_
        refine lv_iconst (v := nI (1)) hx hb dX4_join_107 (by decide) ?_
        refine lv_iadd hx hb dX4_join_108 ?_
        refine q_top (show (nI (rc) + nI (1)) = nI (rc + 1) from nI_add _ _) ?_
        refine va_put (D := D) (ci := 3) (v := .int (nI (rc + 1))) (ty := .int) (C := RX4) (T := TX4) (N := 14) hx hb hts iwX4_join_X4 tyX4 tyX4_ok nmX4 hown hK hP hD hS 0 rfl rfl 4 (by decide) (hts (.fieldLink RX4 42 "RepairSenderModel" "receiverMany" "I") (List.mem_of_getElem? (i := 1) rfl)) (fun _ h9 => h9) rfl (by decide +kernel) rfl rfl (Nat.le_of_ble_eq_true rfl) dX4_join_109 (fun H locs hP hD hS => ?_)
        have hP : va_P D vwCl (wM cI cZ am (k) (pat) (dat) (sent) (rc + 1) (un los rc (tn x0)) (un wai rc (tn x1)) (un set rc 0) (un bad rc 0) (un gon rc 0) (rep) (sil) (0) (na)) H := hP
        have hD : va_D A (wM cI cZ am (k) (pat) (dat) (sent) (rc + 1) (un los rc (tn x0)) (un wai rc (tn x1)) (un set rc 0) (un bad rc 0) (un gon rc 0) (rep) (sil) (0) (na)) := hD
        refine lv_aload_n hx hb dX4_join_112 rfl (lv_at hl 0 rfl) ?_
        refine va_get (D := D) (ci := 3) (v := .int (nI (rc + 1))) (C := RX4) (T := TX4) (N := 14) hx hb hts iwX4_join_X4 hown hK hP 0 rfl rfl 4 (by decide) (hts (.fieldLink RX4 42 "RepairSenderModel" "receiverMany" "I") (List.mem_of_getElem? (i := 1) rfl)) (fun _ h9 => h9) rfl dX4_join_113 ?_
        refine lv_iconst (v := nI (1)) hx hb dX4_join_116 (by decide) ?_
        refine lv_isub hx hb dX4_join_117 ?_
        refine q_top (show (nI (rc + 1) - nI (1)) = nI ((rc + 1) - 1) from pk_sub (by omega)) ?_
        exact W.iret (v := nI ((rc + 1) - 1)) hx hb hr (fun t ht hW => ⟨⟨_, (wM cI cZ am (k) (pat) (dat) (sent) (rc + 1) (un los rc (tn x0)) (un wai rc (tn x1)) (un set rc 0) (un bad rc 0) (un gon rc 0) (rep) (sil) (0) (na)), rfl, (by first | exact Or.inl ⟨rfl, by omega, rfl⟩ | exact Or.inr (Or.inl ⟨rfl, by omega, rfl⟩) | exact Or.inr (Or.inr (⟨rfl, by omega, rfl⟩))), by rw [ht]; exact hP, hD⟩, hS.F ht⟩) hS.2.2 dX4_join_118
      · skip
        refine lv_iconst (v := nI (2)) hx hb dX4_join_35 (by decide) ?_
        refine lv_goto (tgt := 40) hx hb dX4_join_36 (by decide) ?_
        refine va_put (D := D) (ci := 3) (v := .int (nI (2))) (ty := .int) (C := RX4) (T := TX4) (N := 14) hx hb hts iwX4_join_X4 tyX4 tyX4_ok nmX4 hown hK hP hD hS 0 rfl rfl 12 (by decide) (hts (.fieldLink RX4 39 "RepairSenderModel" "thrown" "I") (List.mem_of_getElem? (i := 2) rfl)) (fun _ h9 => h9) rfl (by decide +kernel) rfl rfl (Nat.le_of_ble_eq_true rfl) dX4_join_40 (fun H locs hP hD hS => ?_)
        have hP : va_P D vwCl (wM cI cZ am (k) (pat) (dat) (sent) (rc) (los) (wai) (set) (bad) (gon) (rep) (sil) (2) (na)) H := hP
        have hD : va_D A (wM cI cZ am (k) (pat) (dat) (sent) (rc) (los) (wai) (set) (bad) (gon) (rep) (sil) (2) (na)) := hD
        refine lv_aload_n hx hb dX4_join_43 rfl (lv_at hl 0 rfl) ?_
        refine va_get (D := D) (ci := 3) (v := .int (nI (2))) (C := RX4) (T := TX4) (N := 14) hx hb hts iwX4_join_X4 hown hK hP 0 rfl rfl 12 (by decide) (hts (.fieldLink RX4 39 "RepairSenderModel" "thrown" "I") (List.mem_of_getElem? (i := 2) rfl)) (fun _ h9 => h9) rfl dX4_join_44 ?_
        refine q_if_le (u := ((2 : Nat) : Int)) (tgt := 52) hx hb dX4_join_47 (by decide) (nI_toInt (by omega)) (fun c_47 => absurd c_47 (by decide)) (fun _ => ?_)
        refine lv_iconst (v := nI (0)) hx hb dX4_join_50 (by decide) ?_
        exact W.iret (v := nI (0)) hx hb hr (fun t ht hW => ⟨⟨_, (wM cI cZ am (k) (pat) (dat) (sent) (rc) (los) (wai) (set) (bad) (gon) (rep) (sil) (2) (na)), rfl, (by first | exact Or.inl ⟨rfl, by omega, rfl⟩ | exact Or.inr (Or.inl ⟨rfl, by omega, rfl⟩) | exact Or.inr (Or.inr (⟨rfl, by omega, rfl⟩))), by rw [ht]; exact hP, hD⟩, hS.F ht⟩) hS.2.2 dX4_join_51
    · have h_16 : ¬ (0 ≤ x1.toInt ∧ x1.toInt ≤ 20) := h_16
      refine q_if_ne (u := ((0 : Nat) : Int)) (tgt := 26) hx hb dX4_join_19 (by decide) (nI_toInt (by omega)) (fun c_19 => absurd c_19 (by decide)) (fun _ => ?_)
      refine lv_iconst (v := nI (1)) hx hb dX4_join_22 (by decide) ?_
      refine lv_goto (tgt := 40) hx hb dX4_join_23 (by decide) ?_
      refine va_put (D := D) (ci := 3) (v := .int (nI (1))) (ty := .int) (C := RX4) (T := TX4) (N := 14) hx hb hts iwX4_join_X4 tyX4 tyX4_ok nmX4 hown hK hP hD hS 0 rfl rfl 12 (by decide) (hts (.fieldLink RX4 39 "RepairSenderModel" "thrown" "I") (List.mem_of_getElem? (i := 2) rfl)) (fun _ h9 => h9) rfl (by decide +kernel) rfl rfl (Nat.le_of_ble_eq_true rfl) dX4_join_40 (fun H locs hP hD hS => ?_)
      have hP : va_P D vwCl (wM cI cZ am (k) (pat) (dat) (sent) (rc) (los) (wai) (set) (bad) (gon) (rep) (sil) (1) (na)) H := hP
      have hD : va_D A (wM cI cZ am (k) (pat) (dat) (sent) (rc) (los) (wai) (set) (bad) (gon) (rep) (sil) (1) (na)) := hD
      refine lv_aload_n hx hb dX4_join_43 rfl (lv_at hl 0 rfl) ?_
      refine va_get (D := D) (ci := 3) (v := .int (nI (1))) (C := RX4) (T := TX4) (N := 14) hx hb hts iwX4_join_X4 hown hK hP 0 rfl rfl 12 (by decide) (hts (.fieldLink RX4 39 "RepairSenderModel" "thrown" "I") (List.mem_of_getElem? (i := 2) rfl)) (fun _ h9 => h9) rfl dX4_join_44 ?_
      refine q_if_le (u := ((1 : Nat) : Int)) (tgt := 52) hx hb dX4_join_47 (by decide) (nI_toInt (by omega)) (fun c_47 => absurd c_47 (by decide)) (fun _ => ?_)
      refine lv_iconst (v := nI (0)) hx hb dX4_join_50 (by decide) ?_
      exact W.iret (v := nI (0)) hx hb hr (fun t ht hW => ⟨⟨_, (wM cI cZ am (k) (pat) (dat) (sent) (rc) (los) (wai) (set) (bad) (gon) (rep) (sil) (1) (na)), rfl, (by first | exact Or.inl ⟨rfl, by omega, rfl⟩ | exact Or.inr (Or.inl ⟨rfl, by omega, rfl⟩) | exact Or.inr (Or.inr (⟨rfl, by omega, rfl⟩))), by rw [ht]; exact hP, hD⟩, hS.F ht⟩) hS.2.2 dX4_join_51
  · have h_6 : ¬ (0 ≤ x0.toInt ∧ x0.toInt ≤ 2047) := h_6
    refine q_if_eq (u := ((0 : Nat) : Int)) (tgt := 22) hx hb dX4_join_9 (by decide) (nI_toInt (by omega)) (fun _ => ?_) (fun c_9 => absurd c_9 (by decide))
    refine lv_iconst (v := nI (1)) hx hb dX4_join_22 (by decide) ?_
    refine lv_goto (tgt := 40) hx hb dX4_join_23 (by decide) ?_
    refine va_put (D := D) (ci := 3) (v := .int (nI (1))) (ty := .int) (C := RX4) (T := TX4) (N := 14) hx hb hts iwX4_join_X4 tyX4 tyX4_ok nmX4 hown hK hP hD hS 0 rfl rfl 12 (by decide) (hts (.fieldLink RX4 39 "RepairSenderModel" "thrown" "I") (List.mem_of_getElem? (i := 2) rfl)) (fun _ h9 => h9) rfl (by decide +kernel) rfl rfl (Nat.le_of_ble_eq_true rfl) dX4_join_40 (fun H locs hP hD hS => ?_)
    have hP : va_P D vwCl (wM cI cZ am (k) (pat) (dat) (sent) (rc) (los) (wai) (set) (bad) (gon) (rep) (sil) (1) (na)) H := hP
    have hD : va_D A (wM cI cZ am (k) (pat) (dat) (sent) (rc) (los) (wai) (set) (bad) (gon) (rep) (sil) (1) (na)) := hD
    refine lv_aload_n hx hb dX4_join_43 rfl (lv_at hl 0 rfl) ?_
    refine va_get (D := D) (ci := 3) (v := .int (nI (1))) (C := RX4) (T := TX4) (N := 14) hx hb hts iwX4_join_X4 hown hK hP 0 rfl rfl 12 (by decide) (hts (.fieldLink RX4 39 "RepairSenderModel" "thrown" "I") (List.mem_of_getElem? (i := 2) rfl)) (fun _ h9 => h9) rfl dX4_join_44 ?_
    refine q_if_le (u := ((1 : Nat) : Int)) (tgt := 52) hx hb dX4_join_47 (by decide) (nI_toInt (by omega)) (fun c_47 => absurd c_47 (by decide)) (fun _ => ?_)
    refine lv_iconst (v := nI (0)) hx hb dX4_join_50 (by decide) ?_
    exact W.iret (v := nI (0)) hx hb hr (fun t ht hW => ⟨⟨_, (wM cI cZ am (k) (pat) (dat) (sent) (rc) (los) (wai) (set) (bad) (gon) (rep) (sil) (1) (na)), rfl, (by first | exact Or.inl ⟨rfl, by omega, rfl⟩ | exact Or.inr (Or.inl ⟨rfl, by omega, rfl⟩) | exact Or.inr (Or.inr (⟨rfl, by omega, rfl⟩))), by rw [ht]; exact hP, hD⟩, hS.F ht⟩) hS.2.2 dX4_join_51

theorem iwX4_setLosses_X4 : ∀ w ∈ wsX40, w ∈ wsX4_setLosses := by decide +kernel
set_option maxHeartbeats 4000000 in
set_option maxRecDepth 100000 in
theorem c_X4_setLosses (l : Launch) (D : va_G) (cI cZ cQ cL : ClassId) (am : Nat → Nat) (k : Nat) (pat : Nat) (dat : Nat → B8) (sent : Nat) (rc : Nat) (los : Nat → Nat) (wai : Nat → Nat) (set : Nat → Nat) (bad : Nat → Nat) (gon : Nat → Nat) (rep : Nat) (sil : Nat) (thr : Nat) (na : Nat → Nat) (x0 : Int32) (x1 : Int32) (sz : Nat) (hrc : rc ≤ 6) : Met l yX4_setLosses wsX4_setLosses ({ frames := 2, cells := 0, slots := 0, locals := 43 } : Room) (PW D (TY cI cZ cQ cL) (wM cI cZ am (k) (pat) (dat) (sent) (rc) (los) (wai) (set) (bad) (gon) (rep) (sil) (thr) (na)) sz [.ref (am 0), .int (x0), .int (x1)]) (QI D (va_A (wM cI cZ am (k) (pat) (dat) (sent) (rc) (los) (wai) (set) (bad) (gon) (rep) (sil) (thr) (na)) sz) (fun z9 (u9 : va_W) => (z9 = nI (los (tn x0)) ∧ ((0 ≤ x0.toInt ∧ x0.toInt < rc) ∧ (0 ≤ x1.toInt ∧ x1.toInt ≤ 2047)) ∧ u9 = (wM cI cZ am (k) (pat) (dat) (sent) (rc) (un los (tn x0) (tn x1)) (wai) (set) (bad) (gon) (rep) (sil) (0) (na))) ∨ (z9 = nI (0) ∧ (¬ (0 ≤ x0.toInt ∧ x0.toInt < rc)) ∧ u9 = (wM cI cZ am (k) (pat) (dat) (sent) (rc) (los) (wai) (set) (bad) (gon) (rep) (sil) (1) (na))) ∨ (z9 = nI (0) ∧ ((0 ≤ x0.toInt ∧ x0.toInt < rc) ∧ ¬ (0 ≤ x1.toInt ∧ x1.toInt ≤ 2047)) ∧ u9 = (wM cI cZ am (k) (pat) (dat) (sent) (rc) (los) (wai) (set) (bad) (gon) (rep) (sil) (2) (na)))) (fun u9 => u9)) 0 0 (va_A (wM cI cZ am (k) (pat) (dat) (sent) (rc) (los) (wai) (set) (bad) (gon) (rep) (sil) (thr) (na)) sz) := by
  refine Met.ofW (cc := cX4_setLosses) (maxL := 4) (ret := (some .int)) (by decide) rfl ?_
  intro p e s m args below meth c s₁ B hml hv
  obtain ⟨rfl, hsz, hP, hK, hD0, hN⟩ := hv
  have hx := B.exec
  have hb := B.bytes
  have hr := B.returns
  have hts := atoms_spec (ws := wsX4_setLosses) B.pre
  have hown : s.vm.findClass RX4 = some m.cls := findClass_of_methodNamed B.named
  have hlocks := B.notSynchronized
  subst hsz
  have hD := hD0.self (sz := s.heap.size)
  generalize hAe : va_A (wM cI cZ am (k) (pat) (dat) (sent) (rc) (los) (wai) (set) (bad) (gon) (rep) (sil) (thr) (na)) s.heap.size = A at hD ⊢
  have hA : ∀ q : Nat, s.heap.size ≤ q → A q := fun q h => by rw [← hAe]; exact Or.inr h
  have hS : va_S A s.heap s.heap [] := va_S.rf
  have hl := lv_entry ([.ref (am 0), .int (x0), .int (x1)]) (n := 4) (Nat.le_of_ble_eq_true rfl)
  rw [lg_entry_eq]
  generalize (lg_sl ([.ref (am 0), .int (x0), .int (x1)]) ++ List.replicate (4 - (lg_sl ([.ref (am 0), .int (x0), .int (x1)])).length) Slot.unset).toArray = ls at hl ⊢
  have hl : lv_has ls 4 [(0, .ref (am 0)), (1, .int (x0)), (2, .int (x1))] := hl
  refine lv_aload_n hx hb dX4_setLosses_0 rfl (lv_at hl 0 rfl) ?_
  refine lv_aload_n hx hb dX4_setLosses_1 rfl (lv_at hl 0 rfl) ?_
  refine lv_iload_n hx hb dX4_setLosses_2 rfl (lv_at hl 1 rfl) ?_
  have hPc : va_P D vwCl (wM cI cZ am (k) (pat) (dat) (sent) (rc) (los) (wai) (set) (bad) (gon) (rep) (sil) (thr) (na)) s.heap := hP
  refine q_csi (va_runV (As := [.int (x0)]) (rest := [.ref (am 0)]) ⟨hx, hb, hml, hown, hts⟩ (c_X4_isReceiver l D cI cZ cQ cL (am) (k) (pat) (dat) (sent) (rc) (los) (wai) (set) (bad) (gon) (rep) (sil) (thr) (na) (x0) s.heap.size (hrc)) (cwV 1 hts gX4_setLosses_X4_isReceiver rfl rfl rfl ⟨rfl, hd_X4_isReceiver⟩ ⟨Nat.le_of_ble_eq_true rfl, Nat.le_of_ble_eq_true rfl⟩) (PW_v (q := (RX4, TX4, 14)) (ci := 3) (q0 := 0) hPc hK hD hN rfl rfl) rfl rfl hl.1 rfl (lv_room (Nat.le_of_ble_eq_true rfl)) dX4_setLosses_3 ⟨Nat.le_of_ble_eq_true rfl, Nat.le_of_ble_eq_true rfl⟩) (fun r_3 hr_3 => ?_)
  rcases hr_3 with ⟨rfl, h_3⟩ | ⟨rfl, h_3⟩
  · have h_3 : 0 ≤ x0.toInt ∧ x0.toInt < rc := h_3
    refine q_if_ne (u := ((1 : Nat) : Int)) (tgt := 13) hx hb dX4_setLosses_6 (by decide) (nI_toInt (by omega)) (fun _ => ?_) (fun c_6 => absurd c_6 (by decide))
    refine lv_iload_n hx hb dX4_setLosses_13 rfl (lv_at hl 2 rfl) ?_
    refine lv_iconst (v := nI (0)) hx hb dX4_setLosses_14 (by decide) ?_
    refine lv_sipush (v := nI (2047)) hx hb dX4_setLosses_15 (by decide) ?_
    refine q_csi (va_runS (As := [.int (x1), .int (nI (0)), .int (nI (2047))]) (rest := [.ref (am 0)]) ⟨hx, hb, hml, hown, hts⟩ (c_X4_in l (x1) (nI 0) (nI 2047) (0) (2047) (by decide) (by decide)) (va_cwS 3 hts gX4_setLosses_X4_in rfl rfl rfl hd_X4_in ⟨Nat.le_of_ble_eq_true rfl, Nat.le_of_ble_eq_true rfl⟩) P0_s rfl rfl hl.1 rfl (lv_room (Nat.le_of_ble_eq_true rfl)) dX4_setLosses_18 ⟨Nat.le_of_ble_eq_true rfl, Nat.le_of_ble_eq_true rfl⟩) (fun r_18 hr_18 => ?_)
    rcases hr_18 with ⟨rfl, h_18⟩ | ⟨rfl, h_18⟩
    · have h_18 : 0 ≤ x1.toInt ∧ x1.toInt ≤ 2047 := h_18
      refine q_if_ne (u := ((1 : Nat) : Int)) (tgt := 28) hx hb dX4_setLosses_21 (by decide) (nI_toInt (by omega)) (fun _ => ?_) (fun c_21 => absurd c_21 (by decide))
      refine lv_iconst (v := nI (0)) hx hb dX4_setLosses_28 (by decide) ?_
      refine va_put (D := D) (ci := 3) (v := .int (nI (0))) (ty := .int) (C := RX4) (T := TX4) (N := 14) hx hb hts iwX4_setLosses_X4 tyX4 tyX4_ok nmX4 hown hK hP hD hS 0 rfl rfl 12 (by decide) (hts (.fieldLink RX4 39 "RepairSenderModel" "thrown" "I") (List.mem_of_getElem? (i := 1) rfl)) (fun _ h9 => h9) rfl (by decide +kernel) rfl rfl (Nat.le_of_ble_eq_true rfl) dX4_setLosses_29 (fun H locs hP hD hS => ?_)
      have hP : va_P D vwCl (wM cI cZ am (k) (pat) (dat) (sent) (rc) (los) (wai) (set) (bad) (gon) (rep) (sil) (0) (na)) H := hP
      have hD : va_D A (wM cI cZ am (k) (pat) (dat) (sent) (rc) (los) (wai) (set) (bad) (gon) (rep) (sil) (0) (na)) := hD
      refine lv_aload_n hx hb dX4_setLosses_32 rfl (lv_at hl 0 rfl) ?_
      refine va_get (D := D) (ci := 3) (v := .int (nI (0))) (C := RX4) (T := TX4) (N := 14) hx hb hts iwX4_setLosses_X4 hown hK hP 0 rfl rfl 12 (by decide) (hts (.fieldLink RX4 39 "RepairSenderModel" "thrown" "I") (List.mem_of_getElem? (i := 1) rfl)) (fun _ h9 => h9) rfl dX4_setLosses_33 ?_
      refine q_if_le (u := ((0 : Nat) : Int)) (tgt := 41) hx hb dX4_setLosses_36 (by decide) (nI_toInt (by omega)) (fun _ => ?_) (fun c_36 => absurd c_36 (by decide))
      have ht_x0 := tn_i (x := x0) (by omega)
      have ht_x1 := tn_i (x := x1) (by omega)
      refine lv_aload_n hx hb dX4_setLosses_41 rfl (lv_at hl 0 rfl) ?_
      refine va_get (D := D) (ci := 3) (v := .ref (am 2)) (C := RX4) (T := TX4) (N := 14) hx hb hts iwX4_setLosses_X4 hown hK hP 0 rfl rfl 5 (by decide) (hts (.fieldLink RX4 13 "RepairSenderModel" "lossesOf" "[I") (List.mem_of_getElem? (i := 2) rfl)) (fun _ h9 => h9) rfl dX4_setLosses_42 ?_
      refine lv_iload_n hx hb dX4_setLosses_45 rfl (lv_at hl 1 rfl) ?_
      refine q_top (show (x0) = nI (tn x0) from tn_I (by omega)) ?_
      refine q_iald (f := los) (j := tn x0) hx hb hK hP 2 0 rfl rfl (by omega) (by decide) dX4_setLosses_46 ?_
      refine lv_istore_n (lv' := [(3, .int (nI (los (tn x0)))), (0, .ref (am 0)), (1, .int (x0)), (2, .int (x1))]) hx hb dX4_setLosses_47 rfl hl (by decide) rfl (fun ls hl => ?_)
      refine lv_aload_n hx hb dX4_setLosses_48 rfl (lv_at hl 1 rfl) ?_
      refine va_get (D := D) (ci := 3) (v := .ref (am 2)) (C := RX4) (T := TX4) (N := 14) hx hb hts iwX4_setLosses_X4 hown hK hP 0 rfl rfl 5 (by decide) (hts (.fieldLink RX4 13 "RepairSenderModel" "lossesOf" "[I") (List.mem_of_getElem? (i := 2) rfl)) (fun _ h9 => h9) rfl dX4_setLosses_49 ?_
      refine lv_iload_n hx hb dX4_setLosses_52 rfl (lv_at hl 2 rfl) ?_
      refine q_top (show (x0) = nI (tn x0) from tn_I (by omega)) ?_
      refine lv_iload_n hx hb dX4_setLosses_53 rfl (lv_at hl 3 rfl) ?_
      refine q_top (show (x1) = nI (tn x1) from tn_I (by omega)) ?_
      refine q_iast (f := los) (j := tn x0) (y := tn x1) hx hb hK hP hD hS 2 0 rfl rfl (by omega) (by decide) dX4_setLosses_54 (fun H locs hP hD hS => ?_)
      have hP : va_P D vwCl (wM cI cZ am (k) (pat) (dat) (sent) (rc) (un los (tn x0) (tn x1)) (wai) (set) (bad) (gon) (rep) (sil) (0) (na)) H := hP
      have hD : va_D A (wM cI cZ am (k) (pat) (dat) (sent) (rc) (un los (tn x0) (tn x1)) (wai) (set) (bad) (gon) (rep) (sil) (0) (na)) := hD
      refine lv_iload_n hx hb dX4_setLosses_55 rfl (lv_at hl 0 rfl) ?_
      exact W.iret (v := nI (los (tn x0))) hx hb hr (fun t ht hW => ⟨⟨_, (wM cI cZ am (k) (pat) (dat) (sent) (rc) (un los (tn x0) (tn x1)) (wai) (set) (bad) (gon) (rep) (sil) (0) (na)), rfl, (by first | exact Or.inl ⟨rfl, by omega, rfl⟩ | exact Or.inr (Or.inl ⟨rfl, by omega, rfl⟩) | exact Or.inr (Or.inr (⟨rfl, by omega, rfl⟩))), by rw [ht]; exact hP, hD⟩, hS.F ht⟩) hS.2.2 dX4_setLosses_56
    · have h_18 : ¬ (0 ≤ x1.toInt ∧ x1.toInt ≤ 2047) := h_18
      refine q_if_ne (u := ((0 : Nat) : Int)) (tgt := 28) hx hb dX4_setLosses_21 (by decide) (nI_toInt (by omega)) (fun c_21 => absurd c_21 (by decide)) (fun _ => ?_)
      refine lv_iconst (v := nI (2)) hx hb dX4_setLosses_24 (by decide) ?_
      refine lv_goto (tgt := 29) hx hb dX4_setLosses_25 (by decide) ?_
      refine va_put (D := D) (ci := 3) (v := .int (nI (2))) (ty := .int) (C := RX4) (T := TX4) (N := 14) hx hb hts iwX4_setLosses_X4 tyX4 tyX4_ok nmX4 hown hK hP hD hS 0 rfl rfl 12 (by decide) (hts (.fieldLink RX4 39 "RepairSenderModel" "thrown" "I") (List.mem_of_getElem? (i := 1) rfl)) (fun _ h9 => h9) rfl (by decide +kernel) rfl rfl (Nat.le_of_ble_eq_true rfl) dX4_setLosses_29 (fun H locs hP hD hS => ?_)
      have hP : va_P D vwCl (wM cI cZ am (k) (pat) (dat) (sent) (rc) (los) (wai) (set) (bad) (gon) (rep) (sil) (2) (na)) H := hP
      have hD : va_D A (wM cI cZ am (k) (pat) (dat) (sent) (rc) (los) (wai) (set) (bad) (gon) (rep) (sil) (2) (na)) := hD
      refine lv_aload_n hx hb dX4_setLosses_32 rfl (lv_at hl 0 rfl) ?_
      refine va_get (D := D) (ci := 3) (v := .int (nI (2))) (C := RX4) (T := TX4) (N := 14) hx hb hts iwX4_setLosses_X4 hown hK hP 0 rfl rfl 12 (by decide) (hts (.fieldLink RX4 39 "RepairSenderModel" "thrown" "I") (List.mem_of_getElem? (i := 1) rfl)) (fun _ h9 => h9) rfl dX4_setLosses_33 ?_
      refine q_if_le (u := ((2 : Nat) : Int)) (tgt := 41) hx hb dX4_setLosses_36 (by decide) (nI_toInt (by omega)) (fun c_36 => absurd c_36 (by decide)) (fun _ => ?_)
      refine lv_iconst (v := nI (0)) hx hb dX4_setLosses_39 (by decide) ?_
      exact W.iret (v := nI (0)) hx hb hr (fun t ht hW => ⟨⟨_, (wM cI cZ am (k) (pat) (dat) (sent) (rc) (los) (wai) (set) (bad) (gon) (rep) (sil) (2) (na)), rfl, (by first | exact Or.inl ⟨rfl, by omega, rfl⟩ | exact Or.inr (Or.inl ⟨rfl, by omega, rfl⟩) | exact Or.inr (Or.inr (⟨rfl, by omega, rfl⟩))), by rw [ht]; exact hP, hD⟩, hS.F ht⟩) hS.2.2 dX4_setLosses_40
  · have h_3 : ¬ (0 ≤ x0.toInt ∧ x0.toInt < rc) := h_3
    refine q_if_ne (u := ((0 : Nat) : Int)) (tgt := 13) hx hb dX4_setLosses_6 (by decide) (nI_toInt (by omega)) (fun c_6 => absurd c_6 (by decide)) (fun _ => ?_)
    refine lv_iconst (v := nI (1)) hx hb dX4_setLosses_9 (by decide) ?_
    refine lv_goto (tgt := 29) hx hb dX4_setLosses_10 (by decide) ?_
    refine va_put (D := D) (ci := 3) (v := .int (nI (1))) (ty := .int) (C := RX4) (T := TX4) (N := 14) hx hb hts iwX4_setLosses_X4 tyX4 tyX4_ok nmX4 hown hK hP hD hS 0 rfl rfl 12 (by decide) (hts (.fieldLink RX4 39 "RepairSenderModel" "thrown" "I") (List.mem_of_getElem? (i := 1) rfl)) (fun _ h9 => h9) rfl (by decide +kernel) rfl rfl (Nat.le_of_ble_eq_true rfl) dX4_setLosses_29 (fun H locs hP hD hS => ?_)
    have hP : va_P D vwCl (wM cI cZ am (k) (pat) (dat) (sent) (rc) (los) (wai) (set) (bad) (gon) (rep) (sil) (1) (na)) H := hP
    have hD : va_D A (wM cI cZ am (k) (pat) (dat) (sent) (rc) (los) (wai) (set) (bad) (gon) (rep) (sil) (1) (na)) := hD
    refine lv_aload_n hx hb dX4_setLosses_32 rfl (lv_at hl 0 rfl) ?_
    refine va_get (D := D) (ci := 3) (v := .int (nI (1))) (C := RX4) (T := TX4) (N := 14) hx hb hts iwX4_setLosses_X4 hown hK hP 0 rfl rfl 12 (by decide) (hts (.fieldLink RX4 39 "RepairSenderModel" "thrown" "I") (List.mem_of_getElem? (i := 1) rfl)) (fun _ h9 => h9) rfl dX4_setLosses_33 ?_
    refine q_if_le (u := ((1 : Nat) : Int)) (tgt := 41) hx hb dX4_setLosses_36 (by decide) (nI_toInt (by omega)) (fun c_36 => absurd c_36 (by decide)) (fun _ => ?_)
    refine lv_iconst (v := nI (0)) hx hb dX4_setLosses_39 (by decide) ?_
    exact W.iret (v := nI (0)) hx hb hr (fun t ht hW => ⟨⟨_, (wM cI cZ am (k) (pat) (dat) (sent) (rc) (los) (wai) (set) (bad) (gon) (rep) (sil) (1) (na)), rfl, (by first | exact Or.inl ⟨rfl, by omega, rfl⟩ | exact Or.inr (Or.inl ⟨rfl, by omega, rfl⟩) | exact Or.inr (Or.inr (⟨rfl, by omega, rfl⟩))), by rw [ht]; exact hP, hD⟩, hS.F ht⟩) hS.2.2 dX4_setLosses_40

theorem iwX4_setWait_X4 : ∀ w ∈ wsX40, w ∈ wsX4_setWait := by decide +kernel
set_option maxHeartbeats 4000000 in
set_option maxRecDepth 100000 in
theorem c_X4_setWait (l : Launch) (D : va_G) (cI cZ cQ cL : ClassId) (am : Nat → Nat) (k : Nat) (pat : Nat) (dat : Nat → B8) (sent : Nat) (rc : Nat) (los : Nat → Nat) (wai : Nat → Nat) (set : Nat → Nat) (bad : Nat → Nat) (gon : Nat → Nat) (rep : Nat) (sil : Nat) (thr : Nat) (na : Nat → Nat) (x0 : Int32) (x1 : Int32) (sz : Nat) (hrc : rc ≤ 6) : Met l yX4_setWait wsX4_setWait ({ frames := 2, cells := 0, slots := 0, locals := 43 } : Room) (PW D (TY cI cZ cQ cL) (wM cI cZ am (k) (pat) (dat) (sent) (rc) (los) (wai) (set) (bad) (gon) (rep) (sil) (thr) (na)) sz [.ref (am 0), .int (x0), .int (x1)]) (QI D (va_A (wM cI cZ am (k) (pat) (dat) (sent) (rc) (los) (wai) (set) (bad) (gon) (rep) (sil) (thr) (na)) sz) (fun z9 (u9 : va_W) => (z9 = nI (wai (tn x0)) ∧ ((0 ≤ x0.toInt ∧ x0.toInt < rc) ∧ (0 ≤ x1.toInt ∧ x1.toInt ≤ 20)) ∧ u9 = (wM cI cZ am (k) (pat) (dat) (sent) (rc) (los) (un wai (tn x0) (tn x1)) (set) (bad) (gon) (rep) (sil) (0) (na))) ∨ (z9 = nI (0) ∧ (¬ (0 ≤ x0.toInt ∧ x0.toInt < rc)) ∧ u9 = (wM cI cZ am (k) (pat) (dat) (sent) (rc) (los) (wai) (set) (bad) (gon) (rep) (sil) (1) (na))) ∨ (z9 = nI (0) ∧ ((0 ≤ x0.toInt ∧ x0.toInt < rc) ∧ ¬ (0 ≤ x1.toInt ∧ x1.toInt ≤ 20)) ∧ u9 = (wM cI cZ am (k) (pat) (dat) (sent) (rc) (los) (wai) (set) (bad) (gon) (rep) (sil) (2) (na)))) (fun u9 => u9)) 0 0 (va_A (wM cI cZ am (k) (pat) (dat) (sent) (rc) (los) (wai) (set) (bad) (gon) (rep) (sil) (thr) (na)) sz) := by
  refine Met.ofW (cc := cX4_setWait) (maxL := 4) (ret := (some .int)) (by decide) rfl ?_
  intro p e s m args below meth c s₁ B hml hv
  obtain ⟨rfl, hsz, hP, hK, hD0, hN⟩ := hv
  have hx := B.exec
  have hb := B.bytes
  have hr := B.returns
  have hts := atoms_spec (ws := wsX4_setWait) B.pre
  have hown : s.vm.findClass RX4 = some m.cls := findClass_of_methodNamed B.named
  have hlocks := B.notSynchronized
  subst hsz
  have hD := hD0.self (sz := s.heap.size)
  generalize hAe : va_A (wM cI cZ am (k) (pat) (dat) (sent) (rc) (los) (wai) (set) (bad) (gon) (rep) (sil) (thr) (na)) s.heap.size = A at hD ⊢
  have hA : ∀ q : Nat, s.heap.size ≤ q → A q := fun q h => by rw [← hAe]; exact Or.inr h
  have hS : va_S A s.heap s.heap [] := va_S.rf
  have hl := lv_entry ([.ref (am 0), .int (x0), .int (x1)]) (n := 4) (Nat.le_of_ble_eq_true rfl)
  rw [lg_entry_eq]
  generalize (lg_sl ([.ref (am 0), .int (x0), .int (x1)]) ++ List.replicate (4 - (lg_sl ([.ref (am 0), .int (x0), .int (x1)])).length) Slot.unset).toArray = ls at hl ⊢
  have hl : lv_has ls 4 [(0, .ref (am 0)), (1, .int (x0)), (2, .int (x1))] := hl
  refine lv_aload_n hx hb dX4_setWait_0 rfl (lv_at hl 0 rfl) ?_
  refine lv_aload_n hx hb dX4_setWait_1 rfl (lv_at hl 0 rfl) ?_
  refine lv_iload_n hx hb dX4_setWait_2 rfl (lv_at hl 1 rfl) ?_
  have hPc : va_P D vwCl (wM cI cZ am (k) (pat) (dat) (sent) (rc) (los) (wai) (set) (bad) (gon) (rep) (sil) (thr) (na)) s.heap := hP
  refine q_csi (va_runV (As := [.int (x0)]) (rest := [.ref (am 0)]) ⟨hx, hb, hml, hown, hts⟩ (c_X4_isReceiver l D cI cZ cQ cL (am) (k) (pat) (dat) (sent) (rc) (los) (wai) (set) (bad) (gon) (rep) (sil) (thr) (na) (x0) s.heap.size (hrc)) (cwV 1 hts gX4_setWait_X4_isReceiver rfl rfl rfl ⟨rfl, hd_X4_isReceiver⟩ ⟨Nat.le_of_ble_eq_true rfl, Nat.le_of_ble_eq_true rfl⟩) (PW_v (q := (RX4, TX4, 14)) (ci := 3) (q0 := 0) hPc hK hD hN rfl rfl) rfl rfl hl.1 rfl (lv_room (Nat.le_of_ble_eq_true rfl)) dX4_setWait_3 ⟨Nat.le_of_ble_eq_true rfl, Nat.le_of_ble_eq_true rfl⟩) (fun r_3 hr_3 => ?_)
  rcases hr_3 with ⟨rfl, h_3⟩ | ⟨rfl, h_3⟩
  · have h_3 : 0 ≤ x0.toInt ∧ x0.toInt < rc := h_3
    refine q_if_ne (u := ((1 : Nat) : Int)) (tgt := 13) hx hb dX4_setWait_6 (by decide) (nI_toInt (by omega)) (fun _ => ?_) (fun c_6 => absurd c_6 (by decide))
    refine lv_iload_n hx hb dX4_setWait_13 rfl (lv_at hl 2 rfl) ?_
    refine lv_iconst (v := nI (0)) hx hb dX4_setWait_14 (by decide) ?_
    refine lv_bipush (v := nI (20)) hx hb dX4_setWait_15 (by decide) ?_
    refine q_csi (va_runS (As := [.int (x1), .int (nI (0)), .int (nI (20))]) (rest := [.ref (am 0)]) ⟨hx, hb, hml, hown, hts⟩ (c_X4_in l (x1) (nI 0) (nI 20) (0) (20) (by decide) (by decide)) (va_cwS 3 hts gX4_setWait_X4_in rfl rfl rfl hd_X4_in ⟨Nat.le_of_ble_eq_true rfl, Nat.le_of_ble_eq_true rfl⟩) P0_s rfl rfl hl.1 rfl (lv_room (Nat.le_of_ble_eq_true rfl)) dX4_setWait_17 ⟨Nat.le_of_ble_eq_true rfl, Nat.le_of_ble_eq_true rfl⟩) (fun r_17 hr_17 => ?_)
    rcases hr_17 with ⟨rfl, h_17⟩ | ⟨rfl, h_17⟩
    · have h_17 : 0 ≤ x1.toInt ∧ x1.toInt ≤ 20 := h_17
      refine q_if_ne (u := ((1 : Nat) : Int)) (tgt := 27) hx hb dX4_setWait_20 (by decide) (nI_toInt (by omega)) (fun _ => ?_) (fun c_20 => absurd c_20 (by decide))
      refine lv_iconst (v := nI (0)) hx hb dX4_setWait_27 (by decide) ?_
      refine va_put (D := D) (ci := 3) (v := .int (nI (0))) (ty := .int) (C := RX4) (T := TX4) (N := 14) hx hb hts iwX4_setWait_X4 tyX4 tyX4_ok nmX4 hown hK hP hD hS 0 rfl rfl 12 (by decide) (hts (.fieldLink RX4 39 "RepairSenderModel" "thrown" "I") (List.mem_of_getElem? (i := 1) rfl)) (fun _ h9 => h9) rfl (by decide +kernel) rfl rfl (Nat.le_of_ble_eq_true rfl) dX4_setWait_28 (fun H locs hP hD hS => ?_)
      have hP : va_P D vwCl (wM cI cZ am (k) (pat) (dat) (sent) (rc) (los) (wai) (set) (bad) (gon) (rep) (sil) (0) (na)) H := hP
      have hD : va_D A (wM cI cZ am (k) (pat) (dat) (sent) (rc) (los) (wai) (set) (bad) (gon) (rep) (sil) (0) (na)) := hD
      refine lv_aload_n hx hb dX4_setWait_31 rfl (lv_at hl 0 rfl) ?_
      refine va_get (D := D) (ci := 3) (v := .int (nI (0))) (C := RX4) (T := TX4) (N := 14) hx hb hts iwX4_setWait_X4 hown hK hP 0 rfl rfl 12 (by decide) (hts (.fieldLink RX4 39 "RepairSenderModel" "thrown" "I") (List.mem_of_getElem? (i := 1) rfl)) (fun _ h9 => h9) rfl dX4_setWait_32 ?_
      refine q_if_le (u := ((0 : Nat) : Int)) (tgt := 40) hx hb dX4_setWait_35 (by decide) (nI_toInt (by omega)) (fun _ => ?_) (fun c_35 => absurd c_35 (by decide))
      have ht_x0 := tn_i (x := x0) (by omega)
      have ht_x1 := tn_i (x := x1) (by omega)
      refine lv_aload_n hx hb dX4_setWait_40 rfl (lv_at hl 0 rfl) ?_
      refine va_get (D := D) (ci := 3) (v := .ref (am 3)) (C := RX4) (T := TX4) (N := 14) hx hb hts iwX4_setWait_X4 hown hK hP 0 rfl rfl 6 (by decide) (hts (.fieldLink RX4 16 "RepairSenderModel" "waits" "[I") (List.mem_of_getElem? (i := 2) rfl)) (fun _ h9 => h9) rfl dX4_setWait_41 ?_
      refine lv_iload_n hx hb dX4_setWait_44 rfl (lv_at hl 1 rfl) ?_
      refine q_top (show (x0) = nI (tn x0) from tn_I (by omega)) ?_
      refine q_iald (f := wai) (j := tn x0) hx hb hK hP 3 0 rfl rfl (by omega) (by decide) dX4_setWait_45 ?_
      refine lv_istore_n (lv' := [(3, .int (nI (wai (tn x0)))), (0, .ref (am 0)), (1, .int (x0)), (2, .int (x1))]) hx hb dX4_setWait_46 rfl hl (by decide) rfl (fun ls hl => ?_)
      refine lv_aload_n hx hb dX4_setWait_47 rfl (lv_at hl 1 rfl) ?_
      refine va_get (D := D) (ci := 3) (v := .ref (am 3)) (C := RX4) (T := TX4) (N := 14) hx hb hts iwX4_setWait_X4 hown hK hP 0 rfl rfl 6 (by decide) (hts (.fieldLink RX4 16 "RepairSenderModel" "waits" "[I") (List.mem_of_getElem? (i := 2) rfl)) (fun _ h9 => h9) rfl dX4_setWait_48 ?_
      refine lv_iload_n hx hb dX4_setWait_51 rfl (lv_at hl 2 rfl) ?_
      refine q_top (show (x0) = nI (tn x0) from tn_I (by omega)) ?_
      refine lv_iload_n hx hb dX4_setWait_52 rfl (lv_at hl 3 rfl) ?_
      refine q_top (show (x1) = nI (tn x1) from tn_I (by omega)) ?_
      refine q_iast (f := wai) (j := tn x0) (y := tn x1) hx hb hK hP hD hS 3 0 rfl rfl (by omega) (by decide) dX4_setWait_53 (fun H locs hP hD hS => ?_)
      have hP : va_P D vwCl (wM cI cZ am (k) (pat) (dat) (sent) (rc) (los) (un wai (tn x0) (tn x1)) (set) (bad) (gon) (rep) (sil) (0) (na)) H := hP
      have hD : va_D A (wM cI cZ am (k) (pat) (dat) (sent) (rc) (los) (un wai (tn x0) (tn x1)) (set) (bad) (gon) (rep) (sil) (0) (na)) := hD
      refine lv_iload_n hx hb dX4_setWait_54 rfl (lv_at hl 0 rfl) ?_
      exact W.iret (v := nI (wai (tn x0))) hx hb hr (fun t ht hW => ⟨⟨_, (wM cI cZ am (k) (pat) (dat) (sent) (rc) (los) (un wai (tn x0) (tn x1)) (set) (bad) (gon) (rep) (sil) (0) (na)), rfl, (by first | exact Or.inl ⟨rfl, by omega, rfl⟩ | exact Or.inr (Or.inl ⟨rfl, by omega, rfl⟩) | exact Or.inr (Or.inr (⟨rfl, by omega, rfl⟩))), by rw [ht]; exact hP, hD⟩, hS.F ht⟩) hS.2.2 dX4_setWait_55
    · have h_17 : ¬ (0 ≤ x1.toInt ∧ x1.toInt ≤ 20) := h_17
      refine q_if_ne (u := ((0 : Nat) : Int)) (tgt := 27) hx hb dX4_setWait_20 (by decide) (nI_toInt (by omega)) (fun c_20 => absurd c_20 (by decide)) (fun _ => ?_)
      refine lv_iconst (v := nI (2)) hx hb dX4_setWait_23 (by decide) ?_
      refine lv_goto (tgt := 28) hx hb dX4_setWait_24 (by decide) ?_
      refine va_put (D := D) (ci := 3) (v := .int (nI (2))) (ty := .int) (C := RX4) (T := TX4) (N := 14) hx hb hts iwX4_setWait_X4 tyX4 tyX4_ok nmX4 hown hK hP hD hS 0 rfl rfl 12 (by decide) (hts (.fieldLink RX4 39 "RepairSenderModel" "thrown" "I") (List.mem_of_getElem? (i := 1) rfl)) (fun _ h9 => h9) rfl (by decide +kernel) rfl rfl (Nat.le_of_ble_eq_true rfl) dX4_setWait_28 (fun H locs hP hD hS => ?_)
      have hP : va_P D vwCl (wM cI cZ am (k) (pat) (dat) (sent) (rc) (los) (wai) (set) (bad) (gon) (rep) (sil) (2) (na)) H := hP
      have hD : va_D A (wM cI cZ am (k) (pat) (dat) (sent) (rc) (los) (wai) (set) (bad) (gon) (rep) (sil) (2) (na)) := hD
      refine lv_aload_n hx hb dX4_setWait_31 rfl (lv_at hl 0 rfl) ?_
      refine va_get (D := D) (ci := 3) (v := .int (nI (2))) (C := RX4) (T := TX4) (N := 14) hx hb hts iwX4_setWait_X4 hown hK hP 0 rfl rfl 12 (by decide) (hts (.fieldLink RX4 39 "RepairSenderModel" "thrown" "I") (List.mem_of_getElem? (i := 1) rfl)) (fun _ h9 => h9) rfl dX4_setWait_32 ?_
      refine q_if_le (u := ((2 : Nat) : Int)) (tgt := 40) hx hb dX4_setWait_35 (by decide) (nI_toInt (by omega)) (fun c_35 => absurd c_35 (by decide)) (fun _ => ?_)
      refine lv_iconst (v := nI (0)) hx hb dX4_setWait_38 (by decide) ?_
      exact W.iret (v := nI (0)) hx hb hr (fun t ht hW => ⟨⟨_, (wM cI cZ am (k) (pat) (dat) (sent) (rc) (los) (wai) (set) (bad) (gon) (rep) (sil) (2) (na)), rfl, (by first | exact Or.inl ⟨rfl, by omega, rfl⟩ | exact Or.inr (Or.inl ⟨rfl, by omega, rfl⟩) | exact Or.inr (Or.inr (⟨rfl, by omega, rfl⟩))), by rw [ht]; exact hP, hD⟩, hS.F ht⟩) hS.2.2 dX4_setWait_39
  · have h_3 : ¬ (0 ≤ x0.toInt ∧ x0.toInt < rc) := h_3
    refine q_if_ne (u := ((0 : Nat) : Int)) (tgt := 13) hx hb dX4_setWait_6 (by decide) (nI_toInt (by omega)) (fun c_6 => absurd c_6 (by decide)) (fun _ => ?_)
    refine lv_iconst (v := nI (1)) hx hb dX4_setWait_9 (by decide) ?_
    refine lv_goto (tgt := 28) hx hb dX4_setWait_10 (by decide) ?_
    refine va_put (D := D) (ci := 3) (v := .int (nI (1))) (ty := .int) (C := RX4) (T := TX4) (N := 14) hx hb hts iwX4_setWait_X4 tyX4 tyX4_ok nmX4 hown hK hP hD hS 0 rfl rfl 12 (by decide) (hts (.fieldLink RX4 39 "RepairSenderModel" "thrown" "I") (List.mem_of_getElem? (i := 1) rfl)) (fun _ h9 => h9) rfl (by decide +kernel) rfl rfl (Nat.le_of_ble_eq_true rfl) dX4_setWait_28 (fun H locs hP hD hS => ?_)
    have hP : va_P D vwCl (wM cI cZ am (k) (pat) (dat) (sent) (rc) (los) (wai) (set) (bad) (gon) (rep) (sil) (1) (na)) H := hP
    have hD : va_D A (wM cI cZ am (k) (pat) (dat) (sent) (rc) (los) (wai) (set) (bad) (gon) (rep) (sil) (1) (na)) := hD
    refine lv_aload_n hx hb dX4_setWait_31 rfl (lv_at hl 0 rfl) ?_
    refine va_get (D := D) (ci := 3) (v := .int (nI (1))) (C := RX4) (T := TX4) (N := 14) hx hb hts iwX4_setWait_X4 hown hK hP 0 rfl rfl 12 (by decide) (hts (.fieldLink RX4 39 "RepairSenderModel" "thrown" "I") (List.mem_of_getElem? (i := 1) rfl)) (fun _ h9 => h9) rfl dX4_setWait_32 ?_
    refine q_if_le (u := ((1 : Nat) : Int)) (tgt := 40) hx hb dX4_setWait_35 (by decide) (nI_toInt (by omega)) (fun c_35 => absurd c_35 (by decide)) (fun _ => ?_)
    refine lv_iconst (v := nI (0)) hx hb dX4_setWait_38 (by decide) ?_
    exact W.iret (v := nI (0)) hx hb hr (fun t ht hW => ⟨⟨_, (wM cI cZ am (k) (pat) (dat) (sent) (rc) (los) (wai) (set) (bad) (gon) (rep) (sil) (1) (na)), rfl, (by first | exact Or.inl ⟨rfl, by omega, rfl⟩ | exact Or.inr (Or.inl ⟨rfl, by omega, rfl⟩) | exact Or.inr (Or.inr (⟨rfl, by omega, rfl⟩))), by rw [ht]; exact hP, hD⟩, hS.F ht⟩) hS.2.2 dX4_setWait_39

theorem iwX4_needOf_X4 : ∀ w ∈ wsX40, w ∈ wsX4_needOf := by decide +kernel
set_option maxHeartbeats 4000000 in
set_option maxRecDepth 100000 in
theorem c_X4_needOf (l : Launch) (D : va_G) (cI cZ cQ cL : ClassId) (am : Nat → Nat) (k : Nat) (pat : Nat) (dat : Nat → B8) (sent : Nat) (rc : Nat) (los : Nat → Nat) (wai : Nat → Nat) (set : Nat → Nat) (bad : Nat → Nat) (gon : Nat → Nat) (rep : Nat) (sil : Nat) (thr : Nat) (na : Nat → Nat) (r : Nat) (sz : Nat) (hr6 : r < 6) (hset : ∀ r, r < 6 → set r < 65536) (hbk : k ≤ 8) : Met l yX4_needOf wsX4_needOf ({ frames := 0, cells := 0, slots := 0, locals := 0 } : Room) (PW D (TY cI cZ cQ cL) (wM cI cZ am (k) (pat) (dat) (sent) (rc) (los) (wai) (set) (bad) (gon) (rep) (sil) (thr) (na)) sz [.ref (am 0), .int (nI (r))]) (vp_Si (fun z9 => z9 = nI (k - pc (set r)))) 0 0 (fun _ => False) := by
  refine Met.ofW (cc := cX4_needOf) (maxL := 4) (ret := (some .int)) (by decide) rfl ?_
  intro p e s m args below meth c s₁ B hml hv
  obtain ⟨rfl, hsz, hP, hK, hD0, hN⟩ := hv
  have hx := B.exec
  have hb := B.bytes
  have hr := B.returns
  have hts := atoms_spec (ws := wsX4_needOf) B.pre
  have hown : s.vm.findClass RX4 = some m.cls := findClass_of_methodNamed B.named
  have hlocks := B.notSynchronized
  subst hsz
  have hD := hD0
  have hl := lv_entry ([.ref (am 0), .int (nI (r))]) (n := 4) (Nat.le_of_ble_eq_true rfl)
  rw [lg_entry_eq]
  generalize (lg_sl ([.ref (am 0), .int (nI (r))]) ++ List.replicate (4 - (lg_sl ([.ref (am 0), .int (nI (r))])).length) Slot.unset).toArray = ls at hl ⊢
  have hl : lv_has ls 4 [(0, .ref (am 0)), (1, .int (nI (r)))] := hl
  have hs6 := hset r hr6
  have hp6 := pc_le (set r)
  refine lv_aload_n hx hb dX4_needOf_0 rfl (lv_at hl 0 rfl) ?_
  refine va_get (D := D) (ci := 3) (v := .int (nI (k))) (C := RX4) (T := TX4) (N := 14) hx hb hts iwX4_needOf_X4 hown hK hP 0 rfl rfl 0 (by decide) (hts (.fieldLink RX4 32 "RepairSenderModel" "size" "I") (List.mem_of_getElem? (i := 1) rfl)) (fun _ h9 => h9) rfl dX4_needOf_1 ?_
  refine lv_istore_n (lv' := [(2, .int (nI (k))), (0, .ref (am 0)), (1, .int (nI (r)))]) hx hb dX4_needOf_4 rfl hl (by decide) rfl (fun ls hl => ?_)
  refine lv_iconst (v := nI (0)) hx hb dX4_needOf_5 (by decide) ?_
  refine lv_istore_n (lv' := [(3, .int (nI (0))), (2, .int (nI (k))), (0, .ref (am 0)), (1, .int (nI (r)))]) hx hb dX4_needOf_6 rfl hl (by decide) rfl (fun ls hl => ?_)
  have L7_1 : ∀ (n7_1 : Nat) (j : Nat), 16 - j < n7_1 → (j ≤ 16) → ∀ (ls : Array Slot), lv_has ls 4 [(0, .ref (am 0)), (1, .int (nI (r))), (2, .int (nI k - nI (pcn (set r) j))), (3, .int (nI (j)))] → W p l e (headSpec wsX4_needOf ({ frames := 0, cells := 0, slots := 0, locals := 0 } : Room)).room s m ([.ref (am 0), .int (nI (r))] : List Value).toArray below meth c s.heap [] 0 0 (MQ below (vp_Si (fun z9 => z9 = nI (k - pc (set r)))) ([.ref (am 0), .int (nI (r))] : List Value).toArray s 0 0 (fun _ => False)) (F0 m 7 ls []) := by
    intro n7_1
    induction n7_1 with
    | zero =>
      intro j hn7_1
      exact absurd hn7_1 (Nat.not_lt_zero _)
    | succ n7_1 ih7_1 =>
      intro j hn7_1 hj ls hl
      refine lv_iload_n hx hb dX4_needOf_7 rfl (lv_at hl 3 rfl) ?_
      refine lv_bipush (v := nI (16)) hx hb dX4_needOf_8 (by decide) ?_
      refine q_icmp_ge (u := ((j : Nat) : Int)) (v := ((16 : Nat) : Int)) (tgt := 32) hx hb dX4_needOf_10 (by decide) (nI_toInt (by omega)) (nI_toInt (by omega)) (fun c_10 => ?_) (fun c_10 => ?_)
      · obtain rfl : 16 = j := by omega
        have hv6 : (nI k - nI (pcn (set r) 16)).toInt = (k : Int) - ((pc (set r) : Nat) : Int) := pk_sub_toInt (by omega) (by have : pcn (set r) 16 = pc (set r) := rfl; omega)
        refine lv_iload_n hx hb dX4_needOf_32 rfl (lv_at hl 2 rfl) ?_
        refine q_if_ge (u := (nI k - nI (pcn (set r) 16)).toInt) (tgt := 40) hx hb dX4_needOf_33 (by decide) (rfl) (fun c_33 => ?_) (fun c_33 => ?_)
        · skip
          refine lv_iload_n hx hb dX4_needOf_40 rfl (lv_at hl 2 rfl) ?_
          refine q_top (show (nI k - nI (pcn (set r) 16)) = nI (k - pc (set r)) from pk_sub (a := k) (b := pc (set r)) (by omega)) ?_
          exact W.iret (v := nI (k - pc (set r))) hx hb hr (fun t ht hW => ⟨_, rfl, (by first | rfl | (rw [show k - pc (set r) = 0 by omega])), ht⟩) (fun q h => by cases h) dX4_needOf_41
        · skip
          refine lv_iconst (v := nI (0)) hx hb dX4_needOf_36 (by decide) ?_
          refine lv_goto (tgt := 41) hx hb dX4_needOf_37 (by decide) ?_
          exact W.iret (v := nI (0)) hx hb hr (fun t ht hW => ⟨_, rfl, (by first | rfl | (rw [show k - pc (set r) = 0 by omega])), ht⟩) (fun q h => by cases h) dX4_needOf_41
      · skip
        refine lv_iload_n hx hb dX4_needOf_13 rfl (lv_at hl 2 rfl) ?_
        refine lv_aload_n hx hb dX4_needOf_14 rfl (lv_at hl 0 rfl) ?_
        refine va_get (D := D) (ci := 3) (v := .ref (am 4)) (C := RX4) (T := TX4) (N := 14) hx hb hts iwX4_needOf_X4 hown hK hP 0 rfl rfl 7 (by decide) (hts (.fieldLink RX4 19 "RepairSenderModel" "sets" "[I") (List.mem_of_getElem? (i := 2) rfl)) (fun _ h9 => h9) rfl dX4_needOf_15 ?_
        refine lv_iload_n hx hb dX4_needOf_18 rfl (lv_at hl 1 rfl) ?_
        refine q_iald (f := set) (j := r) hx hb hK hP 4 0 rfl rfl (by omega) (by decide) dX4_needOf_19 ?_
        refine lv_iload_n hx hb dX4_needOf_20 rfl (lv_at hl 3 rfl) ?_
        refine lv_ishr hx hb dX4_needOf_21 ?_
        refine q_top (show (nI (set r) >>> (nI (j) &&& 31)) = nI ((set r) / 2 ^ (j)) from nI_shr (by omega) (by omega)) ?_
        refine lv_iconst (v := nI (1)) hx hb dX4_needOf_22 (by decide) ?_
        refine lv_iand hx hb dX4_needOf_23 ?_
        refine q_top (show (nI ((set r) / 2 ^ (j)) &&& nI (1)) = nI (((set r) / 2 ^ (j)) % 2) from nI_and1 _) ?_
        refine lv_isub hx hb dX4_needOf_24 ?_
        refine q_top (show ((nI k - nI (pcn (set r) j)) - nI (((set r) / 2 ^ (j)) % 2)) = (nI k - nI (pcn (set r) (j + 1))) from nI_sub2 _ _ _) ?_
        refine lv_istore_n (lv' := [(2, .int (nI k - nI (pcn (set r) (j + 1)))), (0, .ref (am 0)), (1, .int (nI (r))), (3, .int (nI (j)))]) hx hb dX4_needOf_25 rfl hl (by decide) rfl (fun ls hl => ?_)
        refine lv_iinc (v := nI (j + 1)) (lv' := [(3, .int (nI (j + 1))), (2, .int (nI k - nI (pcn (set r) (j + 1)))), (0, .ref (am 0)), (1, .int (nI (r)))]) hx hb dX4_needOf_26 hl (k := 3) rfl (show nI (j) + Int32.ofInt 1 = nI (j + 1) from nI_add (j) 1) (by decide) rfl (fun ls hl => ?_)
        refine lv_goto (tgt := 7) hx hb dX4_needOf_29 (by decide) ?_
        exact ih7_1 (j + 1) (by omega) (by omega) ls (lv_sub hl [2, 3, 1, 0] rfl)
  exact L7_1 _ (0) (Nat.lt_succ_self _) (by omega) ls (lv_sub hl [2, 3, 1, 0] (by rw [show nI k - nI (pcn (set r) 0) = nI k from pk_sub (Nat.zero_le k)]; rfl))

theorem iwX4_sendOne_X4 : ∀ w ∈ wsX40, w ∈ wsX4_sendOne := by decide +kernel
set_option maxHeartbeats 4000000 in
set_option maxRecDepth 100000 in
theorem c_X4_sendOne (l : Launch) (D : va_G) (cI cZ cQ cL : ClassId) (am : Nat → Nat) (k : Nat) (pat : Nat) (dat : Nat → B8) (sent : Nat) (rc : Nat) (los : Nat → Nat) (wai : Nat → Nat) (set : Nat → Nat) (bad : Nat → Nat) (gon : Nat → Nat) (rep : Nat) (sil : Nat) (thr : Nat) (na : Nat → Nat) (sz : Nat) (hrc : rc ≤ 6) (hse : sent < 2 ^ 30) (hlos : ∀ r, r < 6 → los r ≤ 2047) (hgon : ∀ r, r < 6 → gon r ≤ 1) (hset : ∀ r, r < 6 → set r < 65536) : Met l yX4_sendOne wsX4_sendOne ({ frames := 0, cells := 0, slots := 0, locals := 0 } : Room) (PW D (TY cI cZ cQ cL) (wM cI cZ am (k) (pat) (dat) (sent) (rc) (los) (wai) (set) (bad) (gon) (rep) (sil) (thr) (na)) sz [.ref (am 0)]) (QV D (va_A (wM cI cZ am (k) (pat) (dat) (sent) (rc) (los) (wai) (set) (bad) (gon) (rep) (sil) (thr) (na)) sz) (fun (_ : Unit) => True) (fun _ => (wM cI cZ am (k) (pat) (dat) (sent + 1) (rc) (los) (wai) (snd1 rc sent los gon set) (bad) (gon) (rep) (sil) (thr) (na)))) 0 0 (va_A (wM cI cZ am (k) (pat) (dat) (sent) (rc) (los) (wai) (set) (bad) (gon) (rep) (sil) (thr) (na)) sz) := by
  refine Met.ofW (cc := cX4_sendOne) (maxL := 4) (ret := none) (by decide) rfl ?_
  intro p e s m args below meth c s₁ B hml hv
  obtain ⟨rfl, hsz, hP, hK, hD0, hN⟩ := hv
  have hx := B.exec
  have hb := B.bytes
  have hr := B.returns
  have hts := atoms_spec (ws := wsX4_sendOne) B.pre
  have hown : s.vm.findClass RX4 = some m.cls := findClass_of_methodNamed B.named
  have hlocks := B.notSynchronized
  subst hsz
  have hD := hD0.self (sz := s.heap.size)
  generalize hAe : va_A (wM cI cZ am (k) (pat) (dat) (sent) (rc) (los) (wai) (set) (bad) (gon) (rep) (sil) (thr) (na)) s.heap.size = A at hD ⊢
  have hA : ∀ q : Nat, s.heap.size ≤ q → A q := fun q h => by rw [← hAe]; exact Or.inr h
  have hS : va_S A s.heap s.heap [] := va_S.rf
  have hl := lv_entry ([.ref (am 0)]) (n := 4) (Nat.le_of_ble_eq_true rfl)
  rw [lg_entry_eq]
  generalize (lg_sl ([.ref (am 0)]) ++ List.replicate (4 - (lg_sl ([.ref (am 0)])).length) Slot.unset).toArray = ls at hl ⊢
  have hl : lv_has ls 4 [(0, .ref (am 0))] := hl
  refine lv_aload_n hx hb dX4_sendOne_0 rfl (lv_at hl 0 rfl) ?_
  refine va_get (D := D) (ci := 3) (v := .int (nI (sent))) (C := RX4) (T := TX4) (N := 14) hx hb hts iwX4_sendOne_X4 hown hK hP 0 rfl rfl 3 (by decide) (hts (.fieldLink RX4 49 "RepairSenderModel" "sentMany" "I") (List.mem_of_getElem? (i := 1) rfl)) (fun _ h9 => h9) rfl dX4_sendOne_1 ?_
  refine lv_bipush (v := nI (16)) hx hb dX4_sendOne_4 (by decide) ?_
  refine lv_irem hx hb dX4_sendOne_6 (by decide) ?_
  refine q_top (show (nI (sent) - nI (sent) / nI (16) * nI (16)) = nI ((sent) % 16) from pk_rem (by omega) (by decide) (by decide)) ?_
  refine lv_istore_n (lv' := [(1, .int (nI ((sent) % 16))), (0, .ref (am 0))]) hx hb dX4_sendOne_7 rfl hl (by decide) rfl (fun ls hl => ?_)
  refine lv_iconst (v := nI (0)) hx hb dX4_sendOne_8 (by decide) ?_
  refine lv_istore_n (lv' := [(2, .int (nI (0))), (1, .int (nI ((sent) % 16))), (0, .ref (am 0))]) hx hb dX4_sendOne_9 rfl hl (by decide) rfl (fun ls hl => ?_)
  have L10_1 : ∀ (n10_1 : Nat) (i : Nat), rc - i < n10_1 → (i ≤ rc) → ∀ (H : Heap) (locs : List Loc), va_P D vwCl (wM cI cZ am (k) (pat) (dat) (sent) (rc) (los) (wai) (snd1 i sent los gon set) (bad) (gon) (rep) (sil) (thr) (na)) H → va_D A (wM cI cZ am (k) (pat) (dat) (sent) (rc) (los) (wai) (snd1 i sent los gon set) (bad) (gon) (rep) (sil) (thr) (na)) → va_S A s.heap H locs → ∀ (ls : Array Slot), lv_has ls 4 [(0, .ref (am 0)), (1, .int (nI (sent % 16))), (2, .int (nI (i)))] → W p l e (headSpec wsX4_sendOne ({ frames := 0, cells := 0, slots := 0, locals := 0 } : Room)).room s m ([.ref (am 0)] : List Value).toArray below meth c H locs 0 0 (MQ below (QV D A (fun (_ : Unit) => True) (fun _ => (wM cI cZ am (k) (pat) (dat) (sent + 1) (rc) (los) (wai) (snd1 rc sent los gon set) (bad) (gon) (rep) (sil) (thr) (na)))) ([.ref (am 0)] : List Value).toArray s 0 0 A) (F0 m 10 ls []) := by
    intro n10_1
    induction n10_1 with
    | zero =>
      intro i hn10_1
      exact absurd hn10_1 (Nat.not_lt_zero _)
    | succ n10_1 ih10_1 =>
      intro i hn10_1 hi H locs hP hD hS ls hl
      refine lv_iload_n hx hb dX4_sendOne_10 rfl (lv_at hl 2 rfl) ?_
      refine lv_aload_n hx hb dX4_sendOne_11 rfl (lv_at hl 0 rfl) ?_
      refine va_get (D := D) (ci := 3) (v := .int (nI (rc))) (C := RX4) (T := TX4) (N := 14) hx hb hts iwX4_sendOne_X4 hown hK hP 0 rfl rfl 4 (by decide) (hts (.fieldLink RX4 42 "RepairSenderModel" "receiverMany" "I") (List.mem_of_getElem? (i := 2) rfl)) (fun _ h9 => h9) rfl dX4_sendOne_12 ?_
      refine q_icmp_ge (u := ((i : Nat) : Int)) (v := ((rc : Nat) : Int)) (tgt := 79) hx hb dX4_sendOne_15 (by decide) (nI_toInt (by omega)) (nI_toInt (by omega)) (fun c_15 => ?_) (fun c_15 => ?_)
      · obtain rfl : rc = i := by omega
        refine lv_aload_n hx hb dX4_sendOne_79 rfl (lv_at hl 0 rfl) ?_
        refine lv_dup hx hb dX4_sendOne_80 rfl ?_
        refine va_get (D := D) (ci := 3) (v := .int (nI (sent))) (C := RX4) (T := TX4) (N := 14) hx hb hts iwX4_sendOne_X4 hown hK hP 0 rfl rfl 3 (by decide) (hts (.fieldLink RX4 49 "RepairSenderModel" "sentMany" "I") (List.mem_of_getElem? (i := 1) rfl)) (fun _ h9 => h9) rfl dX4_sendOne_81 ?_
        refine lv_iconst (v := nI (1)) hx hb dX4_sendOne_84 (by decide) ?_
        refine lv_iadd hx hb dX4_sendOne_85 ?_
        refine q_top (show (nI (sent) + nI (1)) = nI (sent + 1) from nI_add _ _) ?_
        refine va_put (D := D) (ci := 3) (v := .int (nI (sent + 1))) (ty := .int) (C := RX4) (T := TX4) (N := 14) hx hb hts iwX4_sendOne_X4 tyX4 tyX4_ok nmX4 hown hK hP hD hS 0 rfl rfl 3 (by decide) (hts (.fieldLink RX4 49 "RepairSenderModel" "sentMany" "I") (List.mem_of_getElem? (i := 1) rfl)) (fun _ h9 => h9) rfl (by decide +kernel) rfl rfl (Nat.le_of_ble_eq_true rfl) dX4_sendOne_86 (fun H locs hP hD hS => ?_)
        have hP : va_P D vwCl (wM cI cZ am (k) (pat) (dat) (sent + 1) (rc) (los) (wai) (snd1 rc sent los gon set) (bad) (gon) (rep) (sil) (thr) (na)) H := hP
        have hD : va_D A (wM cI cZ am (k) (pat) (dat) (sent + 1) (rc) (los) (wai) (snd1 rc sent los gon set) (bad) (gon) (rep) (sil) (thr) (na)) := hD
        have hP : va_P D vwCl (wM cI cZ am (k) (pat) (dat) (sent + 1) (rc) (los) (wai) (snd1 rc sent los gon set) (bad) (gon) (rep) (sil) (thr) (na)) H := hP
        have hD : va_D A (wM cI cZ am (k) (pat) (dat) (sent + 1) (rc) (los) (wai) (snd1 rc sent los gon set) (bad) (gon) (rep) (sil) (thr) (na)) := hD
        exact W.vret hx hb hr (fun t ht hW => ⟨⟨(), rfl, trivial, by rw [ht]; exact hP, hD⟩, hS.F ht⟩) hS.2.2 dX4_sendOne_89
      · skip
        have hg6 := hgon i (by omega)
        have hl6 := hlos i (by omega)
        refine lv_aload_n hx hb dX4_sendOne_18 rfl (lv_at hl 0 rfl) ?_
        refine va_get (D := D) (ci := 3) (v := .ref (am 2)) (C := RX4) (T := TX4) (N := 14) hx hb hts iwX4_sendOne_X4 hown hK hP 0 rfl rfl 5 (by decide) (hts (.fieldLink RX4 13 "RepairSenderModel" "lossesOf" "[I") (List.mem_of_getElem? (i := 3) rfl)) (fun _ h9 => h9) rfl dX4_sendOne_19 ?_
        refine lv_iload_n hx hb dX4_sendOne_22 rfl (lv_at hl 2 rfl) ?_
        refine q_iald (f := los) (j := i) hx hb hK hP 2 0 rfl rfl (by omega) (by decide) dX4_sendOne_23 ?_
        refine lv_aload_n hx hb dX4_sendOne_24 rfl (lv_at hl 0 rfl) ?_
        refine va_get (D := D) (ci := 3) (v := .int (nI (sent))) (C := RX4) (T := TX4) (N := 14) hx hb hts iwX4_sendOne_X4 hown hK hP 0 rfl rfl 3 (by decide) (hts (.fieldLink RX4 49 "RepairSenderModel" "sentMany" "I") (List.mem_of_getElem? (i := 1) rfl)) (fun _ h9 => h9) rfl dX4_sendOne_25 ?_
        refine lv_bipush (v := nI (11)) hx hb dX4_sendOne_28 (by decide) ?_
        refine lv_irem hx hb dX4_sendOne_30 (by decide) ?_
        refine q_top (show (nI (sent) - nI (sent) / nI (11) * nI (11)) = nI ((sent) % 11) from pk_rem (by omega) (by decide) (by decide)) ?_
        refine lv_ishr hx hb dX4_sendOne_31 ?_
        refine q_top (show (nI (los i) >>> (nI ((sent) % 11) &&& 31)) = nI ((los i) / 2 ^ ((sent) % 11)) from nI_shr (by omega) (by omega)) ?_
        refine lv_iconst (v := nI (1)) hx hb dX4_sendOne_32 (by decide) ?_
        refine lv_iand hx hb dX4_sendOne_33 ?_
        refine q_top (show (nI ((los i) / 2 ^ ((sent) % 11)) &&& nI (1)) = nI (((los i) / 2 ^ ((sent) % 11)) % 2) from nI_and1 _) ?_
        refine lv_iconst (v := nI (1)) hx hb dX4_sendOne_34 (by decide) ?_
        refine q_icmp_ne (u := ((((los i) / 2 ^ ((sent) % 11)) % 2 : Nat) : Int)) (v := ((1 : Nat) : Int)) (tgt := 42) hx hb dX4_sendOne_35 (by decide) (nI_toInt (by omega)) (nI_toInt (by omega)) (fun c_35 => ?_) (fun c_35 => ?_)
        · skip
          refine lv_iconst (v := nI (0)) hx hb dX4_sendOne_42 (by decide) ?_
          refine lv_istore_n (lv' := [(3, .int (nI (0))), (0, .ref (am 0)), (1, .int (nI (sent % 16))), (2, .int (nI (i)))]) hx hb dX4_sendOne_43 rfl hl (by decide) rfl (fun ls hl => ?_)
          refine lv_aload_n hx hb dX4_sendOne_44 rfl (lv_at hl 1 rfl) ?_
          refine va_get (D := D) (ci := 3) (v := .ref (am 4)) (C := RX4) (T := TX4) (N := 14) hx hb hts iwX4_sendOne_X4 hown hK hP 0 rfl rfl 7 (by decide) (hts (.fieldLink RX4 19 "RepairSenderModel" "sets" "[I") (List.mem_of_getElem? (i := 4) rfl)) (fun _ h9 => h9) rfl dX4_sendOne_45 ?_
          refine lv_iload_n hx hb dX4_sendOne_48 rfl (lv_at hl 3 rfl) ?_
          refine lv_dup2_11 hx hb dX4_sendOne_49 rfl rfl ?_
          refine q_iald (f := (snd1 i sent los gon set)) (j := i) hx hb hK hP 4 0 rfl rfl (by omega) (by decide) dX4_sendOne_50 ?_
          refine lv_aload_n hx hb dX4_sendOne_51 rfl (lv_at hl 1 rfl) ?_
          refine va_get (D := D) (ci := 3) (v := .ref (am 6)) (C := RX4) (T := TX4) (N := 14) hx hb hts iwX4_sendOne_X4 hown hK hP 0 rfl rfl 9 (by decide) (hts (.fieldLink RX4 25 "RepairSenderModel" "isGone" "[Z") (List.mem_of_getElem? (i := 5) rfl)) (fun _ h9 => h9) rfl dX4_sendOne_52 ?_
          refine lv_iload_n hx hb dX4_sendOne_55 rfl (lv_at hl 3 rfl) ?_
          refine q_zald (f := gon) (j := i) hx hb hK hP 6 1 rfl rfl (by omega) (by decide) dX4_sendOne_56 ?_
          refine q_if_ne (u := ((gon i : Nat) : Int)) (tgt := 64) hx hb dX4_sendOne_57 (by decide) (nI_toInt (by omega)) (fun c_57 => ?_) (fun c_57 => ?_)
          · skip
            refine lv_iconst (v := nI (0)) hx hb dX4_sendOne_64 (by decide) ?_
            refine lv_goto (tgt := 71) hx hb dX4_sendOne_65 (by decide) ?_
            refine lv_ior hx hb dX4_sendOne_71 ?_
            refine q_top (show (nI ((snd1 i sent los gon set) i) ||| nI (0)) = nI (((snd1 i sent los gon set) i) ||| (0)) from nI_or _ _) ?_
            refine q_iast (f := (snd1 i sent los gon set)) (j := i) (y := ((snd1 i sent los gon set) i) ||| (0)) hx hb hK hP hD hS 4 0 rfl rfl (by omega) (by decide) dX4_sendOne_72 (fun H locs hP hD hS => ?_)
            have hP : va_P D vwCl (wM cI cZ am (k) (pat) (dat) (sent) (rc) (los) (wai) (un (snd1 i sent los gon set) i (((snd1 i sent los gon set) i) ||| (0))) (bad) (gon) (rep) (sil) (thr) (na)) H := hP
            have hD : va_D A (wM cI cZ am (k) (pat) (dat) (sent) (rc) (los) (wai) (un (snd1 i sent los gon set) i (((snd1 i sent los gon set) i) ||| (0))) (bad) (gon) (rep) (sil) (thr) (na)) := hD
            refine lv_iinc (v := nI (i + 1)) (lv' := [(2, .int (nI (i + 1))), (3, .int (nI (0))), (0, .ref (am 0)), (1, .int (nI (sent % 16)))]) hx hb dX4_sendOne_73 hl (k := 3) rfl (show nI (i) + Int32.ofInt 1 = nI (i + 1) from nI_add (i) 1) (by decide) rfl (fun ls hl => ?_)
            refine lv_goto (tgt := 10) hx hb dX4_sendOne_76 (by decide) ?_
            have eW : (wM cI cZ am (k) (pat) (dat) (sent) (rc) (los) (wai) (un (snd1 i sent los gon set) i (((snd1 i sent los gon set) i) ||| (0))) (bad) (gon) (rep) (sil) (thr) (na)) = (wM cI cZ am (k) (pat) (dat) (sent) (rc) (los) (wai) (snd1 (i + 1) sent los gon set) (bad) (gon) (rep) (sil) (thr) (na)) := by first | rw [snd1_y (by omega) (by omega)] | rw [un_or0, snd1_n (by omega)]
            rw [eW] at hP hD
            clear eW
            exact ih10_1 (i + 1) (by omega) (by omega) _ _ hP hD hS ls (lv_sub hl [2, 3, 0] rfl)
          · skip
            refine lv_iload_n hx hb dX4_sendOne_60 rfl (lv_at hl 0 rfl) ?_
            refine q_if_eq (u := ((0 : Nat) : Int)) (tgt := 68) hx hb dX4_sendOne_61 (by decide) (nI_toInt (by omega)) (fun _ => ?_) (fun c_61 => absurd c_61 (by decide))
            refine lv_iconst (v := nI (1)) hx hb dX4_sendOne_68 (by decide) ?_
            refine lv_iload_n hx hb dX4_sendOne_69 rfl (lv_at hl 2 rfl) ?_
            refine lv_ishl hx hb dX4_sendOne_70 ?_
            refine q_top (show (nI (1) <<< (nI (sent % 16) &&& 31)) = nI (2 ^ (sent % 16)) from nI_shl2 (by omega)) ?_
            refine lv_ior hx hb dX4_sendOne_71 ?_
            refine q_top (show (nI ((snd1 i sent los gon set) i) ||| nI (2 ^ (sent % 16))) = nI (((snd1 i sent los gon set) i) ||| (2 ^ (sent % 16))) from nI_or _ _) ?_
            refine q_iast (f := (snd1 i sent los gon set)) (j := i) (y := ((snd1 i sent los gon set) i) ||| (2 ^ (sent % 16))) hx hb hK hP hD hS 4 0 rfl rfl (by omega) (by decide) dX4_sendOne_72 (fun H locs hP hD hS => ?_)
            have hP : va_P D vwCl (wM cI cZ am (k) (pat) (dat) (sent) (rc) (los) (wai) (un (snd1 i sent los gon set) i (((snd1 i sent los gon set) i) ||| (2 ^ (sent % 16)))) (bad) (gon) (rep) (sil) (thr) (na)) H := hP
            have hD : va_D A (wM cI cZ am (k) (pat) (dat) (sent) (rc) (los) (wai) (un (snd1 i sent los gon set) i (((snd1 i sent los gon set) i) ||| (2 ^ (sent % 16)))) (bad) (gon) (rep) (sil) (thr) (na)) := hD
            refine lv_iinc (v := nI (i + 1)) (lv' := [(2, .int (nI (i + 1))), (3, .int (nI (0))), (0, .ref (am 0)), (1, .int (nI (sent % 16)))]) hx hb dX4_sendOne_73 hl (k := 3) rfl (show nI (i) + Int32.ofInt 1 = nI (i + 1) from nI_add (i) 1) (by decide) rfl (fun ls hl => ?_)
            refine lv_goto (tgt := 10) hx hb dX4_sendOne_76 (by decide) ?_
            have eW : (wM cI cZ am (k) (pat) (dat) (sent) (rc) (los) (wai) (un (snd1 i sent los gon set) i (((snd1 i sent los gon set) i) ||| (2 ^ (sent % 16)))) (bad) (gon) (rep) (sil) (thr) (na)) = (wM cI cZ am (k) (pat) (dat) (sent) (rc) (los) (wai) (snd1 (i + 1) sent los gon set) (bad) (gon) (rep) (sil) (thr) (na)) := by first | rw [snd1_y (by omega) (by omega)] | rw [un_or0, snd1_n (by omega)]
            rw [eW] at hP hD
            clear eW
            exact ih10_1 (i + 1) (by omega) (by omega) _ _ hP hD hS ls (lv_sub hl [2, 3, 0] rfl)
        · skip
          refine lv_iconst (v := nI (1)) hx hb dX4_sendOne_38 (by decide) ?_
          refine lv_goto (tgt := 43) hx hb dX4_sendOne_39 (by decide) ?_
          refine lv_istore_n (lv' := [(3, .int (nI (1))), (0, .ref (am 0)), (1, .int (nI (sent % 16))), (2, .int (nI (i)))]) hx hb dX4_sendOne_43 rfl hl (by decide) rfl (fun ls hl => ?_)
          refine lv_aload_n hx hb dX4_sendOne_44 rfl (lv_at hl 1 rfl) ?_
          refine va_get (D := D) (ci := 3) (v := .ref (am 4)) (C := RX4) (T := TX4) (N := 14) hx hb hts iwX4_sendOne_X4 hown hK hP 0 rfl rfl 7 (by decide) (hts (.fieldLink RX4 19 "RepairSenderModel" "sets" "[I") (List.mem_of_getElem? (i := 4) rfl)) (fun _ h9 => h9) rfl dX4_sendOne_45 ?_
          refine lv_iload_n hx hb dX4_sendOne_48 rfl (lv_at hl 3 rfl) ?_
          refine lv_dup2_11 hx hb dX4_sendOne_49 rfl rfl ?_
          refine q_iald (f := (snd1 i sent los gon set)) (j := i) hx hb hK hP 4 0 rfl rfl (by omega) (by decide) dX4_sendOne_50 ?_
          refine lv_aload_n hx hb dX4_sendOne_51 rfl (lv_at hl 1 rfl) ?_
          refine va_get (D := D) (ci := 3) (v := .ref (am 6)) (C := RX4) (T := TX4) (N := 14) hx hb hts iwX4_sendOne_X4 hown hK hP 0 rfl rfl 9 (by decide) (hts (.fieldLink RX4 25 "RepairSenderModel" "isGone" "[Z") (List.mem_of_getElem? (i := 5) rfl)) (fun _ h9 => h9) rfl dX4_sendOne_52 ?_
          refine lv_iload_n hx hb dX4_sendOne_55 rfl (lv_at hl 3 rfl) ?_
          refine q_zald (f := gon) (j := i) hx hb hK hP 6 1 rfl rfl (by omega) (by decide) dX4_sendOne_56 ?_
          refine q_if_ne (u := ((gon i : Nat) : Int)) (tgt := 64) hx hb dX4_sendOne_57 (by decide) (nI_toInt (by omega)) (fun c_57 => ?_) (fun c_57 => ?_)
          · skip
            refine lv_iconst (v := nI (0)) hx hb dX4_sendOne_64 (by decide) ?_
            refine lv_goto (tgt := 71) hx hb dX4_sendOne_65 (by decide) ?_
            refine lv_ior hx hb dX4_sendOne_71 ?_
            refine q_top (show (nI ((snd1 i sent los gon set) i) ||| nI (0)) = nI (((snd1 i sent los gon set) i) ||| (0)) from nI_or _ _) ?_
            refine q_iast (f := (snd1 i sent los gon set)) (j := i) (y := ((snd1 i sent los gon set) i) ||| (0)) hx hb hK hP hD hS 4 0 rfl rfl (by omega) (by decide) dX4_sendOne_72 (fun H locs hP hD hS => ?_)
            have hP : va_P D vwCl (wM cI cZ am (k) (pat) (dat) (sent) (rc) (los) (wai) (un (snd1 i sent los gon set) i (((snd1 i sent los gon set) i) ||| (0))) (bad) (gon) (rep) (sil) (thr) (na)) H := hP
            have hD : va_D A (wM cI cZ am (k) (pat) (dat) (sent) (rc) (los) (wai) (un (snd1 i sent los gon set) i (((snd1 i sent los gon set) i) ||| (0))) (bad) (gon) (rep) (sil) (thr) (na)) := hD
            refine lv_iinc (v := nI (i + 1)) (lv' := [(2, .int (nI (i + 1))), (3, .int (nI (1))), (0, .ref (am 0)), (1, .int (nI (sent % 16)))]) hx hb dX4_sendOne_73 hl (k := 3) rfl (show nI (i) + Int32.ofInt 1 = nI (i + 1) from nI_add (i) 1) (by decide) rfl (fun ls hl => ?_)
            refine lv_goto (tgt := 10) hx hb dX4_sendOne_76 (by decide) ?_
            have eW : (wM cI cZ am (k) (pat) (dat) (sent) (rc) (los) (wai) (un (snd1 i sent los gon set) i (((snd1 i sent los gon set) i) ||| (0))) (bad) (gon) (rep) (sil) (thr) (na)) = (wM cI cZ am (k) (pat) (dat) (sent) (rc) (los) (wai) (snd1 (i + 1) sent los gon set) (bad) (gon) (rep) (sil) (thr) (na)) := by first | rw [snd1_y (by omega) (by omega)] | rw [un_or0, snd1_n (by omega)]
            rw [eW] at hP hD
            clear eW
            exact ih10_1 (i + 1) (by omega) (by omega) _ _ hP hD hS ls (lv_sub hl [2, 3, 0] rfl)
          · skip
            refine lv_iload_n hx hb dX4_sendOne_60 rfl (lv_at hl 0 rfl) ?_
            refine q_if_eq (u := ((1 : Nat) : Int)) (tgt := 68) hx hb dX4_sendOne_61 (by decide) (nI_toInt (by omega)) (fun c_61 => absurd c_61 (by decide)) (fun _ => ?_)
            refine lv_iconst (v := nI (0)) hx hb dX4_sendOne_64 (by decide) ?_
            refine lv_goto (tgt := 71) hx hb dX4_sendOne_65 (by decide) ?_
            refine lv_ior hx hb dX4_sendOne_71 ?_
            refine q_top (show (nI ((snd1 i sent los gon set) i) ||| nI (0)) = nI (((snd1 i sent los gon set) i) ||| (0)) from nI_or _ _) ?_
            refine q_iast (f := (snd1 i sent los gon set)) (j := i) (y := ((snd1 i sent los gon set) i) ||| (0)) hx hb hK hP hD hS 4 0 rfl rfl (by omega) (by decide) dX4_sendOne_72 (fun H locs hP hD hS => ?_)
            have hP : va_P D vwCl (wM cI cZ am (k) (pat) (dat) (sent) (rc) (los) (wai) (un (snd1 i sent los gon set) i (((snd1 i sent los gon set) i) ||| (0))) (bad) (gon) (rep) (sil) (thr) (na)) H := hP
            have hD : va_D A (wM cI cZ am (k) (pat) (dat) (sent) (rc) (los) (wai) (un (snd1 i sent los gon set) i (((snd1 i sent los gon set) i) ||| (0))) (bad) (gon) (rep) (sil) (thr) (na)) := hD
            refine lv_iinc (v := nI (i + 1)) (lv' := [(2, .int (nI (i + 1))), (3, .int (nI (1))), (0, .ref (am 0)), (1, .int (nI (sent % 16)))]) hx hb dX4_sendOne_73 hl (k := 3) rfl (show nI (i) + Int32.ofInt 1 = nI (i + 1) from nI_add (i) 1) (by decide) rfl (fun ls hl => ?_)
            refine lv_goto (tgt := 10) hx hb dX4_sendOne_76 (by decide) ?_
            have eW : (wM cI cZ am (k) (pat) (dat) (sent) (rc) (los) (wai) (un (snd1 i sent los gon set) i (((snd1 i sent los gon set) i) ||| (0))) (bad) (gon) (rep) (sil) (thr) (na)) = (wM cI cZ am (k) (pat) (dat) (sent) (rc) (los) (wai) (snd1 (i + 1) sent los gon set) (bad) (gon) (rep) (sil) (thr) (na)) := by first | rw [snd1_y (by omega) (by omega)] | rw [un_or0, snd1_n (by omega)]
            rw [eW] at hP hD
            clear eW
            exact ih10_1 (i + 1) (by omega) (by omega) _ _ hP hD hS ls (lv_sub hl [2, 3, 0] rfl)
  have eW : (wM cI cZ am (k) (pat) (dat) (sent) (rc) (los) (wai) (set) (bad) (gon) (rep) (sil) (thr) (na)) = (wM cI cZ am (k) (pat) (dat) (sent) (rc) (los) (wai) (snd1 0 sent los gon set) (bad) (gon) (rep) (sil) (thr) (na)) := by rw [snd1_0]
  rw [eW] at hP hD
  clear eW
  exact L10_1 _ (0) (Nat.lt_succ_self _) (by omega) _ _ hP hD hS ls (lv_sub hl [2, 1, 0] rfl)

theorem iwX4_send_X4 : ∀ w ∈ wsX40, w ∈ wsX4_send := by decide +kernel
set_option maxHeartbeats 4000000 in
set_option maxRecDepth 100000 in
theorem c_X4_send (l : Launch) (D : va_G) (cI cZ cQ cL : ClassId) (am : Nat → Nat) (k : Nat) (pat : Nat) (dat : Nat → B8) (sent : Nat) (rc : Nat) (los : Nat → Nat) (wai : Nat → Nat) (set : Nat → Nat) (bad : Nat → Nat) (gon : Nat → Nat) (rep : Nat) (sil : Nat) (thr : Nat) (na : Nat → Nat) (x0 : Int32) (sz : Nat) (hrc : rc ≤ 6) (hlos : ∀ r, r < 6 → los r ≤ 2047) (hset : ∀ r, r < 6 → set r < 65536) (hgon : ∀ r, r < 6 → gon r ≤ 1) (hbk : k ≤ 8) (hse : sent ≤ 10000) : Met l yX4_send wsX4_send ({ frames := 1, cells := 0, slots := 0, locals := 23 } : Room) (PW D (TY cI cZ cQ cL) (wM cI cZ am (k) (pat) (dat) (sent) (rc) (los) (wai) (set) (bad) (gon) (rep) (sil) (thr) (na)) sz [.ref (am 0), .int (x0)]) (QI D (va_A (wM cI cZ am (k) (pat) (dat) (sent) (rc) (los) (wai) (set) (bad) (gon) (rep) (sil) (thr) (na)) sz) (fun z9 (u9 : va_W) => (z9 = nI (ccn k (sndM rc sent los gon set (tn x0)) gon rc) ∧ ((1 ≤ x0.toInt ∧ x0.toInt ≤ 16) ∧ (sent : Int) + x0.toInt ≤ 10000) ∧ u9 = (wM cI cZ am (k) (pat) (dat) (sent + tn x0) (rc) (los) (wai) (sndM rc sent los gon set (tn x0)) (bad) (gon) (rep) (sil) (0) (na))) ∨ (z9 = nI (0) ∧ (¬ (1 ≤ x0.toInt ∧ x0.toInt ≤ 16)) ∧ u9 = (wM cI cZ am (k) (pat) (dat) (sent) (rc) (los) (wai) (set) (bad) (gon) (rep) (sil) (1) (na))) ∨ (z9 = nI (0) ∧ ((1 ≤ x0.toInt ∧ x0.toInt ≤ 16) ∧ ¬ ((sent : Int) + x0.toInt ≤ 10000)) ∧ u9 = (wM cI cZ am (k) (pat) (dat) (sent) (rc) (los) (wai) (set) (bad) (gon) (rep) (sil) (2) (na)))) (fun u9 => u9)) 0 0 (va_A (wM cI cZ am (k) (pat) (dat) (sent) (rc) (los) (wai) (set) (bad) (gon) (rep) (sil) (thr) (na)) sz) := by
  refine Met.ofW (cc := cX4_send) (maxL := 4) (ret := (some .int)) (by decide) rfl ?_
  intro p e s m args below meth c s₁ B hml hv
  obtain ⟨rfl, hsz, hP, hK, hD0, hN⟩ := hv
  have hx := B.exec
  have hb := B.bytes
  have hr := B.returns
  have hts := atoms_spec (ws := wsX4_send) B.pre
  have hown : s.vm.findClass RX4 = some m.cls := findClass_of_methodNamed B.named
  have hlocks := B.notSynchronized
  subst hsz
  have hD := hD0.self (sz := s.heap.size)
  generalize hAe : va_A (wM cI cZ am (k) (pat) (dat) (sent) (rc) (los) (wai) (set) (bad) (gon) (rep) (sil) (thr) (na)) s.heap.size = A at hD ⊢
  have hA : ∀ q : Nat, s.heap.size ≤ q → A q := fun q h => by rw [← hAe]; exact Or.inr h
  have hS : va_S A s.heap s.heap [] := va_S.rf
  have hl := lv_entry ([.ref (am 0), .int (x0)]) (n := 4) (Nat.le_of_ble_eq_true rfl)
  rw [lg_entry_eq]
  generalize (lg_sl ([.ref (am 0), .int (x0)]) ++ List.replicate (4 - (lg_sl ([.ref (am 0), .int (x0)])).length) Slot.unset).toArray = ls at hl ⊢
  have hl : lv_has ls 4 [(0, .ref (am 0)), (1, .int (x0))] := hl
  refine lv_aload_n hx hb dX4_send_0 rfl (lv_at hl 0 rfl) ?_
  refine lv_iload_n hx hb dX4_send_1 rfl (lv_at hl 1 rfl) ?_
  refine lv_iconst (v := nI (1)) hx hb dX4_send_2 (by decide) ?_
  refine lv_bipush (v := nI (16)) hx hb dX4_send_3 (by decide) ?_
  refine q_csi (va_runS (As := [.int (x0), .int (nI (1)), .int (nI (16))]) (rest := [.ref (am 0)]) ⟨hx, hb, hml, hown, hts⟩ (c_X4_in l (x0) (nI 1) (nI 16) (1) (16) (by decide) (by decide)) (va_cwS 3 hts gX4_send_X4_in rfl rfl rfl hd_X4_in ⟨Nat.le_of_ble_eq_true rfl, Nat.le_of_ble_eq_true rfl⟩) P0_s rfl rfl hl.1 rfl (lv_room (Nat.le_of_ble_eq_true rfl)) dX4_send_5 ⟨Nat.le_of_ble_eq_true rfl, Nat.le_of_ble_eq_true rfl⟩) (fun r_5 hr_5 => ?_)
  rcases hr_5 with ⟨rfl, h_5⟩ | ⟨rfl, h_5⟩
  · have h_5 : 1 ≤ x0.toInt ∧ x0.toInt ≤ 16 := h_5
    refine q_if_ne (u := ((1 : Nat) : Int)) (tgt := 15) hx hb dX4_send_8 (by decide) (nI_toInt (by omega)) (fun _ => ?_) (fun c_8 => absurd c_8 (by decide))
    have ht_x0 := tn_i (x := x0) (by omega)
    refine lv_aload_n hx hb dX4_send_15 rfl (lv_at hl 0 rfl) ?_
    refine va_get (D := D) (ci := 3) (v := .int (nI (sent))) (C := RX4) (T := TX4) (N := 14) hx hb hts iwX4_send_X4 hown hK hP 0 rfl rfl 3 (by decide) (hts (.fieldLink RX4 49 "RepairSenderModel" "sentMany" "I") (List.mem_of_getElem? (i := 1) rfl)) (fun _ h9 => h9) rfl dX4_send_16 ?_
    refine lv_iload_n hx hb dX4_send_19 rfl (lv_at hl 1 rfl) ?_
    refine q_top (show (x0) = nI (tn x0) from tn_I (by omega)) ?_
    refine lv_iadd hx hb dX4_send_20 ?_
    refine q_top (show (nI (sent) + nI (tn x0)) = nI (sent + tn x0) from nI_add _ _) ?_
    refine lv_sipush (v := nI (10000)) hx hb dX4_send_21 (by decide) ?_
    refine q_icmp_le (u := ((sent + tn x0 : Nat) : Int)) (v := ((10000 : Nat) : Int)) (tgt := 31) hx hb dX4_send_24 (by decide) (nI_toInt (by omega)) (nI_toInt (by omega)) (fun c_24 => ?_) (fun c_24 => ?_)
    · skip
      refine lv_iconst (v := nI (0)) hx hb dX4_send_31 (by decide) ?_
      refine va_put (D := D) (ci := 3) (v := .int (nI (0))) (ty := .int) (C := RX4) (T := TX4) (N := 14) hx hb hts iwX4_send_X4 tyX4 tyX4_ok nmX4 hown hK hP hD hS 0 rfl rfl 12 (by decide) (hts (.fieldLink RX4 39 "RepairSenderModel" "thrown" "I") (List.mem_of_getElem? (i := 2) rfl)) (fun _ h9 => h9) rfl (by decide +kernel) rfl rfl (Nat.le_of_ble_eq_true rfl) dX4_send_32 (fun H locs hP hD hS => ?_)
      have hP : va_P D vwCl (wM cI cZ am (k) (pat) (dat) (sent) (rc) (los) (wai) (set) (bad) (gon) (rep) (sil) (0) (na)) H := hP
      have hD : va_D A (wM cI cZ am (k) (pat) (dat) (sent) (rc) (los) (wai) (set) (bad) (gon) (rep) (sil) (0) (na)) := hD
      refine lv_iconst (v := nI (0)) hx hb dX4_send_35 (by decide) ?_
      refine lv_istore_n (lv' := [(2, .int (nI (0))), (0, .ref (am 0)), (1, .int (x0))]) hx hb dX4_send_36 rfl hl (by decide) rfl (fun ls hl => ?_)
      refine lv_iconst (v := nI (0)) hx hb dX4_send_37 (by decide) ?_
      refine lv_istore_n (lv' := [(3, .int (nI (0))), (2, .int (nI (0))), (0, .ref (am 0)), (1, .int (x0))]) hx hb dX4_send_38 rfl hl (by decide) rfl (fun ls hl => ?_)
      have L39_3 : ∀ (n39_3 : Nat) (i : Nat), tn x0 - i < n39_3 → (i ≤ tn x0) → ∀ (H : Heap) (locs : List Loc), va_P D vwCl (wM cI cZ am (k) (pat) (dat) (sent + i) (rc) (los) (wai) (sndM rc sent los gon set i) (bad) (gon) (rep) (sil) (0) (na)) H → va_D A (wM cI cZ am (k) (pat) (dat) (sent + i) (rc) (los) (wai) (sndM rc sent los gon set i) (bad) (gon) (rep) (sil) (0) (na)) → va_S A s.heap H locs → ∀ (ls : Array Slot), lv_has ls 4 [(0, .ref (am 0)), (1, .int (x0)), (2, .int (nI (0))), (3, .int (nI (i)))] → W p l e (headSpec wsX4_send ({ frames := 1, cells := 0, slots := 0, locals := 23 } : Room)).room s m ([.ref (am 0), .int (x0)] : List Value).toArray below meth c H locs 0 0 (MQ below (QI D A (fun z9 (u9 : va_W) => (z9 = nI (ccn k (sndM rc sent los gon set (tn x0)) gon rc) ∧ ((1 ≤ x0.toInt ∧ x0.toInt ≤ 16) ∧ (sent : Int) + x0.toInt ≤ 10000) ∧ u9 = (wM cI cZ am (k) (pat) (dat) (sent + tn x0) (rc) (los) (wai) (sndM rc sent los gon set (tn x0)) (bad) (gon) (rep) (sil) (0) (na))) ∨ (z9 = nI (0) ∧ (¬ (1 ≤ x0.toInt ∧ x0.toInt ≤ 16)) ∧ u9 = (wM cI cZ am (k) (pat) (dat) (sent) (rc) (los) (wai) (set) (bad) (gon) (rep) (sil) (1) (na))) ∨ (z9 = nI (0) ∧ ((1 ≤ x0.toInt ∧ x0.toInt ≤ 16) ∧ ¬ ((sent : Int) + x0.toInt ≤ 10000)) ∧ u9 = (wM cI cZ am (k) (pat) (dat) (sent) (rc) (los) (wai) (set) (bad) (gon) (rep) (sil) (2) (na)))) (fun u9 => u9)) ([.ref (am 0), .int (x0)] : List Value).toArray s 0 0 A) (F0 m 39 ls []) := by
        intro n39_3
        induction n39_3 with
        | zero =>
          intro i hn39_3
          exact absurd hn39_3 (Nat.not_lt_zero _)
        | succ n39_3 ih39_3 =>
          intro i hn39_3 hi H locs hP hD hS ls hl
          refine lv_iload_n hx hb dX4_send_39 rfl (lv_at hl 3 rfl) ?_
          refine lv_iload_n hx hb dX4_send_40 rfl (lv_at hl 1 rfl) ?_
          refine q_icmp_ge (u := ((i : Nat) : Int)) (v := (x0).toInt) (tgt := 61) hx hb dX4_send_41 (by decide) (nI_toInt (by omega)) (rfl) (fun c_41 => ?_) (fun c_41 => ?_)
          · obtain rfl : tn x0 = i := by omega
            refine lv_iconst (v := nI (0)) hx hb dX4_send_61 (by decide) ?_
            refine lv_istore_n (lv' := [(3, .int (nI (0))), (0, .ref (am 0)), (1, .int (x0)), (2, .int (nI (0)))]) hx hb dX4_send_62 rfl hl (by decide) rfl (fun ls hl => ?_)
            have L63_5 : ∀ (n63_5 : Nat) (j : Nat), rc - j < n63_5 → (j ≤ rc) → ∀ (H : Heap) (locs : List Loc), va_P D vwCl (wM cI cZ am (k) (pat) (dat) (sent + tn x0) (rc) (los) (wai) (sndM rc sent los gon set (tn x0)) (bad) (gon) (rep) (sil) (0) (na)) H → va_D A (wM cI cZ am (k) (pat) (dat) (sent + tn x0) (rc) (los) (wai) (sndM rc sent los gon set (tn x0)) (bad) (gon) (rep) (sil) (0) (na)) → va_S A s.heap H locs → ∀ (ls : Array Slot), lv_has ls 4 [(0, .ref (am 0)), (1, .int (x0)), (2, .int (nI (ccn k (sndM rc sent los gon set (tn x0)) gon j))), (3, .int (nI (j)))] → W p l e (headSpec wsX4_send ({ frames := 1, cells := 0, slots := 0, locals := 23 } : Room)).room s m ([.ref (am 0), .int (x0)] : List Value).toArray below meth c H locs 0 0 (MQ below (QI D A (fun z9 (u9 : va_W) => (z9 = nI (ccn k (sndM rc sent los gon set (tn x0)) gon rc) ∧ ((1 ≤ x0.toInt ∧ x0.toInt ≤ 16) ∧ (sent : Int) + x0.toInt ≤ 10000) ∧ u9 = (wM cI cZ am (k) (pat) (dat) (sent + tn x0) (rc) (los) (wai) (sndM rc sent los gon set (tn x0)) (bad) (gon) (rep) (sil) (0) (na))) ∨ (z9 = nI (0) ∧ (¬ (1 ≤ x0.toInt ∧ x0.toInt ≤ 16)) ∧ u9 = (wM cI cZ am (k) (pat) (dat) (sent) (rc) (los) (wai) (set) (bad) (gon) (rep) (sil) (1) (na))) ∨ (z9 = nI (0) ∧ ((1 ≤ x0.toInt ∧ x0.toInt ≤ 16) ∧ ¬ ((sent : Int) + x0.toInt ≤ 10000)) ∧ u9 = (wM cI cZ am (k) (pat) (dat) (sent) (rc) (los) (wai) (set) (bad) (gon) (rep) (sil) (2) (na)))) (fun u9 => u9)) ([.ref (am 0), .int (x0)] : List Value).toArray s 0 0 A) (F0 m 63 ls []) := by
              intro n63_5
              induction n63_5 with
              | zero =>
                intro j hn63_5
                exact absurd hn63_5 (Nat.not_lt_zero _)
              | succ n63_5 ih63_5 =>
                intro j hn63_5 hj H locs hP hD hS ls hl
                refine lv_iload_n hx hb dX4_send_63 rfl (lv_at hl 3 rfl) ?_
                refine lv_aload_n hx hb dX4_send_64 rfl (lv_at hl 0 rfl) ?_
                refine va_get (D := D) (ci := 3) (v := .int (nI (rc))) (C := RX4) (T := TX4) (N := 14) hx hb hts iwX4_send_X4 hown hK hP 0 rfl rfl 4 (by decide) (hts (.fieldLink RX4 42 "RepairSenderModel" "receiverMany" "I") (List.mem_of_getElem? (i := 3) rfl)) (fun _ h9 => h9) rfl dX4_send_65 ?_
                refine q_icmp_ge (u := ((j : Nat) : Int)) (v := ((rc : Nat) : Int)) (tgt := 109) hx hb dX4_send_68 (by decide) (nI_toInt (by omega)) (nI_toInt (by omega)) (fun c_68 => ?_) (fun c_68 => ?_)
                · obtain rfl : rc = j := by omega
                  refine lv_iload_n hx hb dX4_send_109 rfl (lv_at hl 2 rfl) ?_
                  exact W.iret (v := nI (ccn k (sndM rc sent los gon set (tn x0)) gon rc)) hx hb hr (fun t ht hW => ⟨⟨_, (wM cI cZ am (k) (pat) (dat) (sent + tn x0) (rc) (los) (wai) (sndM rc sent los gon set (tn x0)) (bad) (gon) (rep) (sil) (0) (na)), rfl, (by first | exact Or.inl ⟨rfl, by omega, rfl⟩ | exact Or.inr (Or.inl ⟨rfl, by omega, rfl⟩) | exact Or.inr (Or.inr (⟨rfl, by omega, rfl⟩))), by rw [ht]; exact hP, hD⟩, hS.F ht⟩) hS.2.2 dX4_send_110
                · skip
                  refine lv_aload_n hx hb dX4_send_71 rfl (lv_at hl 0 rfl) ?_
                  refine va_get (D := D) (ci := 3) (v := .int (nI (0))) (C := RX4) (T := TX4) (N := 14) hx hb hts iwX4_send_X4 hown hK hP 0 rfl rfl 12 (by decide) (hts (.fieldLink RX4 39 "RepairSenderModel" "thrown" "I") (List.mem_of_getElem? (i := 2) rfl)) (fun _ h9 => h9) rfl dX4_send_72 ?_
                  refine q_if_ne (u := ((0 : Nat) : Int)) (tgt := 109) hx hb dX4_send_75 (by decide) (nI_toInt (by omega)) (fun c_75 => absurd c_75 (by decide)) (fun _ => ?_)
                  have hg6 := hgon j (by omega)
                  refine lv_iload_n hx hb dX4_send_78 rfl (lv_at hl 2 rfl) ?_
                  refine lv_aload_n hx hb dX4_send_79 rfl (lv_at hl 0 rfl) ?_
                  refine va_get (D := D) (ci := 3) (v := .ref (am 6)) (C := RX4) (T := TX4) (N := 14) hx hb hts iwX4_send_X4 hown hK hP 0 rfl rfl 9 (by decide) (hts (.fieldLink RX4 25 "RepairSenderModel" "isGone" "[Z") (List.mem_of_getElem? (i := 4) rfl)) (fun _ h9 => h9) rfl dX4_send_80 ?_
                  refine lv_iload_n hx hb dX4_send_83 rfl (lv_at hl 3 rfl) ?_
                  refine q_zald (f := gon) (j := j) hx hb hK hP 6 1 rfl rfl (by omega) (by decide) dX4_send_84 ?_
                  refine q_if_ne (u := ((gon j : Nat) : Int)) (tgt := 100) hx hb dX4_send_85 (by decide) (nI_toInt (by omega)) (fun c_85 => ?_) (fun c_85 => ?_)
                  · have e1 : ccn k (sndM rc sent los gon set (tn x0)) gon (j + 1) = ccn k (sndM rc sent los gon set (tn x0)) gon j := if_neg (by omega)
                    refine lv_iconst (v := nI (0)) hx hb dX4_send_100 (by decide) ?_
                    refine lv_iadd hx hb dX4_send_101 ?_
                    refine q_top (show (nI (ccn k (sndM rc sent los gon set (tn x0)) gon j) + nI (0)) = nI (ccn k (sndM rc sent los gon set (tn x0)) gon j + 0) from nI_add _ _) ?_
                    refine lv_istore_n (lv' := [(2, .int (nI (ccn k (sndM rc sent los gon set (tn x0)) gon j + 0))), (0, .ref (am 0)), (1, .int (x0)), (3, .int (nI (j)))]) hx hb dX4_send_102 rfl hl (by decide) rfl (fun ls hl => ?_)
                    refine lv_iinc (v := nI (j + 1)) (lv' := [(3, .int (nI (j + 1))), (2, .int (nI (ccn k (sndM rc sent los gon set (tn x0)) gon j + 0))), (0, .ref (am 0)), (1, .int (x0))]) hx hb dX4_send_103 hl (k := 3) rfl (show nI (j) + Int32.ofInt 1 = nI (j + 1) from nI_add (j) 1) (by decide) rfl (fun ls hl => ?_)
                    refine lv_goto (tgt := 63) hx hb dX4_send_106 (by decide) ?_
                    exact ih63_5 (j + 1) (by omega) (by omega) _ _ hP hD hS ls (lv_sub hl [2, 3, 1, 0] (by rw [e1]; rfl))
                  · skip
                    refine lv_aload_n hx hb dX4_send_88 rfl (lv_at hl 0 rfl) ?_
                    refine lv_iload_n hx hb dX4_send_89 rfl (lv_at hl 3 rfl) ?_
                    have hPc : va_P D vwCl (wM cI cZ am (k) (pat) (dat) ((sent + tn x0)) (rc) (los) (wai) ((sndM rc sent los gon set (tn x0))) (bad) (gon) (rep) (sil) (0) (na)) H := hP
                    refine q_csi (va_runV (As := [.int (nI (j))]) (rest := [.int (nI (ccn k (sndM rc sent los gon set (tn x0)) gon j))]) ⟨hx, hb, hml, hown, hts⟩ (c_X4_needOf l D cI cZ cQ cL (am) (k) (pat) (dat) (sent + tn x0) (rc) (los) (wai) (sndM rc sent los gon set (tn x0)) (bad) (gon) (rep) (sil) (0) (na) (j) H.size (by omega) (sndM_lt hset _) (hbk)) (cwV 1 hts gX4_send_X4_needOf rfl rfl rfl ⟨rfl, hd_X4_needOf⟩ ⟨Nat.le_of_ble_eq_true rfl, Nat.le_of_ble_eq_true rfl⟩) (PW_v (q := (RX4, TX4, 14)) (ci := 3) (q0 := 0) hPc hK hD hN rfl rfl) rfl rfl hl.1 rfl (lv_room (Nat.le_of_ble_eq_true rfl)) dX4_send_90 ⟨Nat.le_of_ble_eq_true rfl, Nat.le_of_ble_eq_true rfl⟩) (fun r_90 hr_90 => ?_)
                    obtain rfl : r_90 = nI (k - pc ((sndM rc sent los gon set (tn x0)) j)) := hr_90
                    refine q_if_ne (u := ((k - pc ((sndM rc sent los gon set (tn x0)) j) : Nat) : Int)) (tgt := 100) hx hb dX4_send_93 (by decide) (nI_toInt (by omega)) (fun c_93 => ?_) (fun c_93 => ?_)
                    · have e1 : ccn k (sndM rc sent los gon set (tn x0)) gon (j + 1) = ccn k (sndM rc sent los gon set (tn x0)) gon j := if_neg (by omega)
                      refine lv_iconst (v := nI (0)) hx hb dX4_send_100 (by decide) ?_
                      refine lv_iadd hx hb dX4_send_101 ?_
                      refine q_top (show (nI (ccn k (sndM rc sent los gon set (tn x0)) gon j) + nI (0)) = nI (ccn k (sndM rc sent los gon set (tn x0)) gon j + 0) from nI_add _ _) ?_
                      refine lv_istore_n (lv' := [(2, .int (nI (ccn k (sndM rc sent los gon set (tn x0)) gon j + 0))), (0, .ref (am 0)), (1, .int (x0)), (3, .int (nI (j)))]) hx hb dX4_send_102 rfl hl (by decide) rfl (fun ls hl => ?_)
                      refine lv_iinc (v := nI (j + 1)) (lv' := [(3, .int (nI (j + 1))), (2, .int (nI (ccn k (sndM rc sent los gon set (tn x0)) gon j + 0))), (0, .ref (am 0)), (1, .int (x0))]) hx hb dX4_send_103 hl (k := 3) rfl (show nI (j) + Int32.ofInt 1 = nI (j + 1) from nI_add (j) 1) (by decide) rfl (fun ls hl => ?_)
                      refine lv_goto (tgt := 63) hx hb dX4_send_106 (by decide) ?_
                      exact ih63_5 (j + 1) (by omega) (by omega) _ _ hP hD hS ls (lv_sub hl [2, 3, 1, 0] (by rw [e1]; rfl))
                    · have e1 : ccn k (sndM rc sent los gon set (tn x0)) gon (j + 1) = ccn k (sndM rc sent los gon set (tn x0)) gon j + 1 := if_pos (by omega)
                      refine lv_iconst (v := nI (1)) hx hb dX4_send_96 (by decide) ?_
                      refine lv_goto (tgt := 101) hx hb dX4_send_97 (by decide) ?_
                      refine lv_iadd hx hb dX4_send_101 ?_
                      refine q_top (show (nI (ccn k (sndM rc sent los gon set (tn x0)) gon j) + nI (1)) = nI (ccn k (sndM rc sent los gon set (tn x0)) gon j + 1) from nI_add _ _) ?_
                      refine lv_istore_n (lv' := [(2, .int (nI (ccn k (sndM rc sent los gon set (tn x0)) gon j + 1))), (0, .ref (am 0)), (1, .int (x0)), (3, .int (nI (j)))]) hx hb dX4_send_102 rfl hl (by decide) rfl (fun ls hl => ?_)
                      refine lv_iinc (v := nI (j + 1)) (lv' := [(3, .int (nI (j + 1))), (2, .int (nI (ccn k (sndM rc sent los gon set (tn x0)) gon j + 1))), (0, .ref (am 0)), (1, .int (x0))]) hx hb dX4_send_103 hl (k := 3) rfl (show nI (j) + Int32.ofInt 1 = nI (j + 1) from nI_add (j) 1) (by decide) rfl (fun ls hl => ?_)
                      refine lv_goto (tgt := 63) hx hb dX4_send_106 (by decide) ?_
                      exact ih63_5 (j + 1) (by omega) (by omega) _ _ hP hD hS ls (lv_sub hl [2, 3, 1, 0] (by rw [e1]; rfl))
            exact L63_5 _ (0) (Nat.lt_succ_self _) (by omega) _ _ hP hD hS ls (lv_sub hl [1, 2, 3, 0] rfl)
          · skip
            refine lv_aload_n hx hb dX4_send_44 rfl (lv_at hl 0 rfl) ?_
            refine va_get (D := D) (ci := 3) (v := .int (nI (0))) (C := RX4) (T := TX4) (N := 14) hx hb hts iwX4_send_X4 hown hK hP 0 rfl rfl 12 (by decide) (hts (.fieldLink RX4 39 "RepairSenderModel" "thrown" "I") (List.mem_of_getElem? (i := 2) rfl)) (fun _ h9 => h9) rfl dX4_send_45 ?_
            refine q_if_ne (u := ((0 : Nat) : Int)) (tgt := 61) hx hb dX4_send_48 (by decide) (nI_toInt (by omega)) (fun c_48 => absurd c_48 (by decide)) (fun _ => ?_)
            refine lv_aload_n hx hb dX4_send_51 rfl (lv_at hl 0 rfl) ?_
            have hPc : va_P D vwCl (wM cI cZ am (k) (pat) (dat) ((sent + i)) (rc) (los) (wai) ((sndM rc sent los gon set i)) (bad) (gon) (rep) (sil) (0) (na)) H := hP
            refine q_cv (wc := (wM cI cZ am (k) (pat) (dat) ((sent + i)) (rc) (los) (wai) ((sndM rc sent los gon set i)) (bad) (gon) (rep) (sil) (0) (na))) (wr := []) (w1 := fun _ => (wM cI cZ am (k) (pat) (dat) ((sent + i) + 1) (rc) (los) (wai) (snd1 rc (sent + i) los gon (sndM rc sent los gon set i)) (bad) (gon) (rep) (sil) (0) (na))) (va_runV (As := []) (rest := []) ⟨hx, hb, hml, hown, hts⟩ (c_X4_sendOne l D cI cZ cQ cL (am) (k) (pat) (dat) (sent + i) (rc) (los) (wai) (sndM rc sent los gon set i) (bad) (gon) (rep) (sil) (0) (na) H.size (hrc) (by omega) (hlos) (hgon) (sndM_lt hset i)) (cwV 0 hts gX4_send_X4_sendOne rfl rfl rfl ⟨rfl, hd_X4_sendOne⟩ ⟨Nat.le_of_ble_eq_true rfl, Nat.le_of_ble_eq_true rfl⟩) (PW_v (q := (RX4, TX4, 14)) (ci := 3) (q0 := 0) hPc hK hD hN rfl rfl) rfl rfl hl.1 rfl (lv_room (Nat.le_of_ble_eq_true rfl)) dX4_send_52 ⟨Nat.le_of_ble_eq_true rfl, Nat.le_of_ble_eq_true rfl⟩) hP hD hS hA [0, 1, 2, 3, 4, 5, 6, 7] [] rfl rfl (by decide) (by decide) (fun u_52 H locs h_52 hP hD hS => ?_)
            have hP : va_P D vwCl (wM cI cZ am (k) (pat) (dat) ((sent + i) + 1) (rc) (los) (wai) (snd1 rc (sent + i) los gon (sndM rc sent los gon set i)) (bad) (gon) (rep) (sil) (0) (na)) H := hP
            have hD : va_D A (wM cI cZ am (k) (pat) (dat) ((sent + i) + 1) (rc) (los) (wai) (snd1 rc (sent + i) los gon (sndM rc sent los gon set i)) (bad) (gon) (rep) (sil) (0) (na)) := hD
            refine lv_iinc (v := nI (i + 1)) (lv' := [(3, .int (nI (i + 1))), (0, .ref (am 0)), (1, .int (x0)), (2, .int (nI (0)))]) hx hb dX4_send_55 hl (k := 3) rfl (show nI (i) + Int32.ofInt 1 = nI (i + 1) from nI_add (i) 1) (by decide) rfl (fun ls hl => ?_)
            refine lv_goto (tgt := 39) hx hb dX4_send_58 (by decide) ?_
            have eW : (wM cI cZ am (k) (pat) (dat) ((sent + i) + 1) (rc) (los) (wai) (snd1 rc (sent + i) los gon (sndM rc sent los gon set i)) (bad) (gon) (rep) (sil) (0) (na)) = (wM cI cZ am (k) (pat) (dat) (sent + (i + 1)) (rc) (los) (wai) (sndM rc sent los gon set (i + 1)) (bad) (gon) (rep) (sil) (0) (na)) := by rfl
            rw [eW] at hP hD
            clear eW
            exact ih39_3 (i + 1) (by omega) (by omega) _ _ hP hD hS ls (lv_sub hl [1, 2, 3, 0] rfl)
      have eW : (wM cI cZ am (k) (pat) (dat) (sent) (rc) (los) (wai) (set) (bad) (gon) (rep) (sil) (0) (na)) = (wM cI cZ am (k) (pat) (dat) (sent + 0) (rc) (los) (wai) (sndM rc sent los gon set 0) (bad) (gon) (rep) (sil) (0) (na)) := by rfl
      rw [eW] at hP hD
      clear eW
      exact L39_3 _ (0) (Nat.lt_succ_self _) (by omega) _ _ hP hD hS ls (lv_sub hl [2, 3, 1, 0] rfl)
    · skip
      refine lv_iconst (v := nI (2)) hx hb dX4_send_27 (by decide) ?_
      refine lv_goto (tgt := 32) hx hb dX4_send_28 (by decide) ?_
      refine va_put (D := D) (ci := 3) (v := .int (nI (2))) (ty := .int) (C := RX4) (T := TX4) (N := 14) hx hb hts iwX4_send_X4 tyX4 tyX4_ok nmX4 hown hK hP hD hS 0 rfl rfl 12 (by decide) (hts (.fieldLink RX4 39 "RepairSenderModel" "thrown" "I") (List.mem_of_getElem? (i := 2) rfl)) (fun _ h9 => h9) rfl (by decide +kernel) rfl rfl (Nat.le_of_ble_eq_true rfl) dX4_send_32 (fun H locs hP hD hS => ?_)
      have hP : va_P D vwCl (wM cI cZ am (k) (pat) (dat) (sent) (rc) (los) (wai) (set) (bad) (gon) (rep) (sil) (2) (na)) H := hP
      have hD : va_D A (wM cI cZ am (k) (pat) (dat) (sent) (rc) (los) (wai) (set) (bad) (gon) (rep) (sil) (2) (na)) := hD
      refine lv_iconst (v := nI (0)) hx hb dX4_send_35 (by decide) ?_
      refine lv_istore_n (lv' := [(2, .int (nI (0))), (0, .ref (am 0)), (1, .int (x0))]) hx hb dX4_send_36 rfl hl (by decide) rfl (fun ls hl => ?_)
      refine lv_iconst (v := nI (0)) hx hb dX4_send_37 (by decide) ?_
      refine lv_istore_n (lv' := [(3, .int (nI (0))), (2, .int (nI (0))), (0, .ref (am 0)), (1, .int (x0))]) hx hb dX4_send_38 rfl hl (by decide) rfl (fun ls hl => ?_)
      refine lv_iload_n hx hb dX4_send_39 rfl (lv_at hl 0 rfl) ?_
      refine lv_iload_n hx hb dX4_send_40 rfl (lv_at hl 3 rfl) ?_
      refine q_icmp_ge (u := ((0 : Nat) : Int)) (v := (x0).toInt) (tgt := 61) hx hb dX4_send_41 (by decide) (nI_toInt (by omega)) (rfl) (fun c_41 => ?_) (fun c_41 => ?_)
      · skip
        refine lv_iconst (v := nI (0)) hx hb dX4_send_61 (by decide) ?_
        refine lv_istore_n (lv' := [(3, .int (nI (0))), (2, .int (nI (0))), (0, .ref (am 0)), (1, .int (x0))]) hx hb dX4_send_62 rfl hl (by decide) rfl (fun ls hl => ?_)
        refine lv_iload_n hx hb dX4_send_63 rfl (lv_at hl 0 rfl) ?_
        refine lv_aload_n hx hb dX4_send_64 rfl (lv_at hl 2 rfl) ?_
        refine va_get (D := D) (ci := 3) (v := .int (nI (rc))) (C := RX4) (T := TX4) (N := 14) hx hb hts iwX4_send_X4 hown hK hP 0 rfl rfl 4 (by decide) (hts (.fieldLink RX4 42 "RepairSenderModel" "receiverMany" "I") (List.mem_of_getElem? (i := 3) rfl)) (fun _ h9 => h9) rfl dX4_send_65 ?_
        refine q_icmp_ge (u := ((0 : Nat) : Int)) (v := ((rc : Nat) : Int)) (tgt := 109) hx hb dX4_send_68 (by decide) (nI_toInt (by omega)) (nI_toInt (by omega)) (fun c_68 => ?_) (fun c_68 => ?_)
        · skip
          refine lv_iload_n hx hb dX4_send_109 rfl (lv_at hl 1 rfl) ?_
          exact W.iret (v := nI (0)) hx hb hr (fun t ht hW => ⟨⟨_, (wM cI cZ am (k) (pat) (dat) (sent) (rc) (los) (wai) (set) (bad) (gon) (rep) (sil) (2) (na)), rfl, (by first | exact Or.inl ⟨rfl, by omega, rfl⟩ | exact Or.inr (Or.inl ⟨rfl, by omega, rfl⟩) | exact Or.inr (Or.inr (⟨rfl, by omega, rfl⟩))), by rw [ht]; exact hP, hD⟩, hS.F ht⟩) hS.2.2 dX4_send_110
        · skip
          refine lv_aload_n hx hb dX4_send_71 rfl (lv_at hl 2 rfl) ?_
          refine va_get (D := D) (ci := 3) (v := .int (nI (2))) (C := RX4) (T := TX4) (N := 14) hx hb hts iwX4_send_X4 hown hK hP 0 rfl rfl 12 (by decide) (hts (.fieldLink RX4 39 "RepairSenderModel" "thrown" "I") (List.mem_of_getElem? (i := 2) rfl)) (fun _ h9 => h9) rfl dX4_send_72 ?_
          refine q_if_ne (u := ((2 : Nat) : Int)) (tgt := 109) hx hb dX4_send_75 (by decide) (nI_toInt (by omega)) (fun _ => ?_) (fun c_75 => absurd c_75 (by decide))
          refine lv_iload_n hx hb dX4_send_109 rfl (lv_at hl 1 rfl) ?_
          exact W.iret (v := nI (0)) hx hb hr (fun t ht hW => ⟨⟨_, (wM cI cZ am (k) (pat) (dat) (sent) (rc) (los) (wai) (set) (bad) (gon) (rep) (sil) (2) (na)), rfl, (by first | exact Or.inl ⟨rfl, by omega, rfl⟩ | exact Or.inr (Or.inl ⟨rfl, by omega, rfl⟩) | exact Or.inr (Or.inr (⟨rfl, by omega, rfl⟩))), by rw [ht]; exact hP, hD⟩, hS.F ht⟩) hS.2.2 dX4_send_110
      · skip
        refine lv_aload_n hx hb dX4_send_44 rfl (lv_at hl 2 rfl) ?_
        refine va_get (D := D) (ci := 3) (v := .int (nI (2))) (C := RX4) (T := TX4) (N := 14) hx hb hts iwX4_send_X4 hown hK hP 0 rfl rfl 12 (by decide) (hts (.fieldLink RX4 39 "RepairSenderModel" "thrown" "I") (List.mem_of_getElem? (i := 2) rfl)) (fun _ h9 => h9) rfl dX4_send_45 ?_
        refine q_if_ne (u := ((2 : Nat) : Int)) (tgt := 61) hx hb dX4_send_48 (by decide) (nI_toInt (by omega)) (fun _ => ?_) (fun c_48 => absurd c_48 (by decide))
        refine lv_iconst (v := nI (0)) hx hb dX4_send_61 (by decide) ?_
        refine lv_istore_n (lv' := [(3, .int (nI (0))), (2, .int (nI (0))), (0, .ref (am 0)), (1, .int (x0))]) hx hb dX4_send_62 rfl hl (by decide) rfl (fun ls hl => ?_)
        refine lv_iload_n hx hb dX4_send_63 rfl (lv_at hl 0 rfl) ?_
        refine lv_aload_n hx hb dX4_send_64 rfl (lv_at hl 2 rfl) ?_
        refine va_get (D := D) (ci := 3) (v := .int (nI (rc))) (C := RX4) (T := TX4) (N := 14) hx hb hts iwX4_send_X4 hown hK hP 0 rfl rfl 4 (by decide) (hts (.fieldLink RX4 42 "RepairSenderModel" "receiverMany" "I") (List.mem_of_getElem? (i := 3) rfl)) (fun _ h9 => h9) rfl dX4_send_65 ?_
        refine q_icmp_ge (u := ((0 : Nat) : Int)) (v := ((rc : Nat) : Int)) (tgt := 109) hx hb dX4_send_68 (by decide) (nI_toInt (by omega)) (nI_toInt (by omega)) (fun c_68 => ?_) (fun c_68 => ?_)
        · skip
          refine lv_iload_n hx hb dX4_send_109 rfl (lv_at hl 1 rfl) ?_
          exact W.iret (v := nI (0)) hx hb hr (fun t ht hW => ⟨⟨_, (wM cI cZ am (k) (pat) (dat) (sent) (rc) (los) (wai) (set) (bad) (gon) (rep) (sil) (2) (na)), rfl, (by first | exact Or.inl ⟨rfl, by omega, rfl⟩ | exact Or.inr (Or.inl ⟨rfl, by omega, rfl⟩) | exact Or.inr (Or.inr (⟨rfl, by omega, rfl⟩))), by rw [ht]; exact hP, hD⟩, hS.F ht⟩) hS.2.2 dX4_send_110
        · skip
          refine lv_aload_n hx hb dX4_send_71 rfl (lv_at hl 2 rfl) ?_
          refine va_get (D := D) (ci := 3) (v := .int (nI (2))) (C := RX4) (T := TX4) (N := 14) hx hb hts iwX4_send_X4 hown hK hP 0 rfl rfl 12 (by decide) (hts (.fieldLink RX4 39 "RepairSenderModel" "thrown" "I") (List.mem_of_getElem? (i := 2) rfl)) (fun _ h9 => h9) rfl dX4_send_72 ?_
          refine q_if_ne (u := ((2 : Nat) : Int)) (tgt := 109) hx hb dX4_send_75 (by decide) (nI_toInt (by omega)) (fun _ => ?_) (fun c_75 => absurd c_75 (by decide))
          refine lv_iload_n hx hb dX4_send_109 rfl (lv_at hl 1 rfl) ?_
          exact W.iret (v := nI (0)) hx hb hr (fun t ht hW => ⟨⟨_, (wM cI cZ am (k) (pat) (dat) (sent) (rc) (los) (wai) (set) (bad) (gon) (rep) (sil) (2) (na)), rfl, (by first | exact Or.inl ⟨rfl, by omega, rfl⟩ | exact Or.inr (Or.inl ⟨rfl, by omega, rfl⟩) | exact Or.inr (Or.inr (⟨rfl, by omega, rfl⟩))), by rw [ht]; exact hP, hD⟩, hS.F ht⟩) hS.2.2 dX4_send_110
  · have h_5 : ¬ (1 ≤ x0.toInt ∧ x0.toInt ≤ 16) := h_5
    refine q_if_ne (u := ((0 : Nat) : Int)) (tgt := 15) hx hb dX4_send_8 (by decide) (nI_toInt (by omega)) (fun c_8 => absurd c_8 (by decide)) (fun _ => ?_)
    refine lv_iconst (v := nI (1)) hx hb dX4_send_11 (by decide) ?_
    refine lv_goto (tgt := 32) hx hb dX4_send_12 (by decide) ?_
    refine va_put (D := D) (ci := 3) (v := .int (nI (1))) (ty := .int) (C := RX4) (T := TX4) (N := 14) hx hb hts iwX4_send_X4 tyX4 tyX4_ok nmX4 hown hK hP hD hS 0 rfl rfl 12 (by decide) (hts (.fieldLink RX4 39 "RepairSenderModel" "thrown" "I") (List.mem_of_getElem? (i := 2) rfl)) (fun _ h9 => h9) rfl (by decide +kernel) rfl rfl (Nat.le_of_ble_eq_true rfl) dX4_send_32 (fun H locs hP hD hS => ?_)
    have hP : va_P D vwCl (wM cI cZ am (k) (pat) (dat) (sent) (rc) (los) (wai) (set) (bad) (gon) (rep) (sil) (1) (na)) H := hP
    have hD : va_D A (wM cI cZ am (k) (pat) (dat) (sent) (rc) (los) (wai) (set) (bad) (gon) (rep) (sil) (1) (na)) := hD
    refine lv_iconst (v := nI (0)) hx hb dX4_send_35 (by decide) ?_
    refine lv_istore_n (lv' := [(2, .int (nI (0))), (0, .ref (am 0)), (1, .int (x0))]) hx hb dX4_send_36 rfl hl (by decide) rfl (fun ls hl => ?_)
    refine lv_iconst (v := nI (0)) hx hb dX4_send_37 (by decide) ?_
    refine lv_istore_n (lv' := [(3, .int (nI (0))), (2, .int (nI (0))), (0, .ref (am 0)), (1, .int (x0))]) hx hb dX4_send_38 rfl hl (by decide) rfl (fun ls hl => ?_)
    refine lv_iload_n hx hb dX4_send_39 rfl (lv_at hl 0 rfl) ?_
    refine lv_iload_n hx hb dX4_send_40 rfl (lv_at hl 3 rfl) ?_
    refine q_icmp_ge (u := ((0 : Nat) : Int)) (v := (x0).toInt) (tgt := 61) hx hb dX4_send_41 (by decide) (nI_toInt (by omega)) (rfl) (fun c_41 => ?_) (fun c_41 => ?_)
    · skip
      refine lv_iconst (v := nI (0)) hx hb dX4_send_61 (by decide) ?_
      refine lv_istore_n (lv' := [(3, .int (nI (0))), (2, .int (nI (0))), (0, .ref (am 0)), (1, .int (x0))]) hx hb dX4_send_62 rfl hl (by decide) rfl (fun ls hl => ?_)
      refine lv_iload_n hx hb dX4_send_63 rfl (lv_at hl 0 rfl) ?_
      refine lv_aload_n hx hb dX4_send_64 rfl (lv_at hl 2 rfl) ?_
      refine va_get (D := D) (ci := 3) (v := .int (nI (rc))) (C := RX4) (T := TX4) (N := 14) hx hb hts iwX4_send_X4 hown hK hP 0 rfl rfl 4 (by decide) (hts (.fieldLink RX4 42 "RepairSenderModel" "receiverMany" "I") (List.mem_of_getElem? (i := 3) rfl)) (fun _ h9 => h9) rfl dX4_send_65 ?_
      refine q_icmp_ge (u := ((0 : Nat) : Int)) (v := ((rc : Nat) : Int)) (tgt := 109) hx hb dX4_send_68 (by decide) (nI_toInt (by omega)) (nI_toInt (by omega)) (fun c_68 => ?_) (fun c_68 => ?_)
      · skip
        refine lv_iload_n hx hb dX4_send_109 rfl (lv_at hl 1 rfl) ?_
        exact W.iret (v := nI (0)) hx hb hr (fun t ht hW => ⟨⟨_, (wM cI cZ am (k) (pat) (dat) (sent) (rc) (los) (wai) (set) (bad) (gon) (rep) (sil) (1) (na)), rfl, (by first | exact Or.inl ⟨rfl, by omega, rfl⟩ | exact Or.inr (Or.inl ⟨rfl, by omega, rfl⟩) | exact Or.inr (Or.inr (⟨rfl, by omega, rfl⟩))), by rw [ht]; exact hP, hD⟩, hS.F ht⟩) hS.2.2 dX4_send_110
      · skip
        refine lv_aload_n hx hb dX4_send_71 rfl (lv_at hl 2 rfl) ?_
        refine va_get (D := D) (ci := 3) (v := .int (nI (1))) (C := RX4) (T := TX4) (N := 14) hx hb hts iwX4_send_X4 hown hK hP 0 rfl rfl 12 (by decide) (hts (.fieldLink RX4 39 "RepairSenderModel" "thrown" "I") (List.mem_of_getElem? (i := 2) rfl)) (fun _ h9 => h9) rfl dX4_send_72 ?_
        refine q_if_ne (u := ((1 : Nat) : Int)) (tgt := 109) hx hb dX4_send_75 (by decide) (nI_toInt (by omega)) (fun _ => ?_) (fun c_75 => absurd c_75 (by decide))
        refine lv_iload_n hx hb dX4_send_109 rfl (lv_at hl 1 rfl) ?_
        exact W.iret (v := nI (0)) hx hb hr (fun t ht hW => ⟨⟨_, (wM cI cZ am (k) (pat) (dat) (sent) (rc) (los) (wai) (set) (bad) (gon) (rep) (sil) (1) (na)), rfl, (by first | exact Or.inl ⟨rfl, by omega, rfl⟩ | exact Or.inr (Or.inl ⟨rfl, by omega, rfl⟩) | exact Or.inr (Or.inr (⟨rfl, by omega, rfl⟩))), by rw [ht]; exact hP, hD⟩, hS.F ht⟩) hS.2.2 dX4_send_110
    · skip
      refine lv_aload_n hx hb dX4_send_44 rfl (lv_at hl 2 rfl) ?_
      refine va_get (D := D) (ci := 3) (v := .int (nI (1))) (C := RX4) (T := TX4) (N := 14) hx hb hts iwX4_send_X4 hown hK hP 0 rfl rfl 12 (by decide) (hts (.fieldLink RX4 39 "RepairSenderModel" "thrown" "I") (List.mem_of_getElem? (i := 2) rfl)) (fun _ h9 => h9) rfl dX4_send_45 ?_
      refine q_if_ne (u := ((1 : Nat) : Int)) (tgt := 61) hx hb dX4_send_48 (by decide) (nI_toInt (by omega)) (fun _ => ?_) (fun c_48 => absurd c_48 (by decide))
      refine lv_iconst (v := nI (0)) hx hb dX4_send_61 (by decide) ?_
      refine lv_istore_n (lv' := [(3, .int (nI (0))), (2, .int (nI (0))), (0, .ref (am 0)), (1, .int (x0))]) hx hb dX4_send_62 rfl hl (by decide) rfl (fun ls hl => ?_)
      refine lv_iload_n hx hb dX4_send_63 rfl (lv_at hl 0 rfl) ?_
      refine lv_aload_n hx hb dX4_send_64 rfl (lv_at hl 2 rfl) ?_
      refine va_get (D := D) (ci := 3) (v := .int (nI (rc))) (C := RX4) (T := TX4) (N := 14) hx hb hts iwX4_send_X4 hown hK hP 0 rfl rfl 4 (by decide) (hts (.fieldLink RX4 42 "RepairSenderModel" "receiverMany" "I") (List.mem_of_getElem? (i := 3) rfl)) (fun _ h9 => h9) rfl dX4_send_65 ?_
      refine q_icmp_ge (u := ((0 : Nat) : Int)) (v := ((rc : Nat) : Int)) (tgt := 109) hx hb dX4_send_68 (by decide) (nI_toInt (by omega)) (nI_toInt (by omega)) (fun c_68 => ?_) (fun c_68 => ?_)
      · skip
        refine lv_iload_n hx hb dX4_send_109 rfl (lv_at hl 1 rfl) ?_
        exact W.iret (v := nI (0)) hx hb hr (fun t ht hW => ⟨⟨_, (wM cI cZ am (k) (pat) (dat) (sent) (rc) (los) (wai) (set) (bad) (gon) (rep) (sil) (1) (na)), rfl, (by first | exact Or.inl ⟨rfl, by omega, rfl⟩ | exact Or.inr (Or.inl ⟨rfl, by omega, rfl⟩) | exact Or.inr (Or.inr (⟨rfl, by omega, rfl⟩))), by rw [ht]; exact hP, hD⟩, hS.F ht⟩) hS.2.2 dX4_send_110
      · skip
        refine lv_aload_n hx hb dX4_send_71 rfl (lv_at hl 2 rfl) ?_
        refine va_get (D := D) (ci := 3) (v := .int (nI (1))) (C := RX4) (T := TX4) (N := 14) hx hb hts iwX4_send_X4 hown hK hP 0 rfl rfl 12 (by decide) (hts (.fieldLink RX4 39 "RepairSenderModel" "thrown" "I") (List.mem_of_getElem? (i := 2) rfl)) (fun _ h9 => h9) rfl dX4_send_72 ?_
        refine q_if_ne (u := ((1 : Nat) : Int)) (tgt := 109) hx hb dX4_send_75 (by decide) (nI_toInt (by omega)) (fun _ => ?_) (fun c_75 => absurd c_75 (by decide))
        refine lv_iload_n hx hb dX4_send_109 rfl (lv_at hl 1 rfl) ?_
        exact W.iret (v := nI (0)) hx hb hr (fun t ht hW => ⟨⟨_, (wM cI cZ am (k) (pat) (dat) (sent) (rc) (los) (wai) (set) (bad) (gon) (rep) (sil) (1) (na)), rfl, (by first | exact Or.inl ⟨rfl, by omega, rfl⟩ | exact Or.inr (Or.inl ⟨rfl, by omega, rfl⟩) | exact Or.inr (Or.inr (⟨rfl, by omega, rfl⟩))), by rw [ht]; exact hP, hD⟩, hS.F ht⟩) hS.2.2 dX4_send_110
