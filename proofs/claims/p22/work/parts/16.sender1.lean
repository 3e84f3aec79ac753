theorem nI_max {a b : Nat} (ha : a < 2 ^ 31) (hb : b < 2 ^ 31) : (if nI a < nI b then nI b else nI a) = nI (max a b) := by
  by_cases h : a < b
  · rw [if_pos ((nI_ltI ha hb).mpr h), Nat.max_eq_right (by omega)]
  · rw [if_neg (fun z => h ((nI_ltI ha hb).mp z)), Nat.max_eq_left (by omega)]
theorem nI_max0 {a b : Nat} (ha : a < 2 ^ 30) (hb : b < 2 ^ 30) : (if nI 0 < nI a - nI b then nI a - nI b else nI 0) = nI (a - b) := by
  by_cases h : b ≤ a
  · rw [pk_sub h, nI_max (by decide) (by omega), Nat.max_eq_right (Nat.zero_le _)]
  · have h1 := pk_sneg hb (show a < b by omega)
    rw [if_neg (fun z => ?_), show a - b = 0 by omega]
    rw [q_ltI] at h1 z
    have h2 : (nI 0).toInt = 0 := by decide
    have h3 : (0 : Int32).toInt = 0 := by decide
    omega
theorem ndf_le (k : Nat) (S gon : Nat → Nat) (r : Nat) : ndf k S gon r ≤ k := by
  unfold ndf
  split <;> omega
def idp (i : Nat) (bp : Nat → B8) : Nat → B8 := fun q => if q < i then BitVec.ofNat 8 q else bp q
def zrv (i : Nat) (bv : Nat → B8) : Nat → B8 := fun q => if q < i then 0 else bv q
theorem idp_0 (bp : Nat → B8) : idp 0 bp = bp := by
  funext q
  simp [idp]
theorem zrv_0 (bp : Nat → B8) : zrv 0 bp = bp := by
  funext q
  simp [zrv]
theorem idp_s (i : Nat) (bp : Nat → B8) : ub (idp i bp) i (BitVec.ofNat 8 i) = idp (i + 1) bp := by
  funext q
  unfold ub idp
  by_cases h : q = i
  · subst h
    rw [if_pos rfl, if_pos (by omega)]
  · rw [if_neg h]
    by_cases h2 : q < i
    · rw [if_pos h2, if_pos (by omega)]
    · rw [if_neg h2, if_neg (by omega)]
theorem zrv_s (i : Nat) (bp : Nat → B8) : ub (zrv i bp) i 0 = zrv (i + 1) bp := by
  funext q
  unfold ub zrv
  by_cases h : q = i
  · subst h
    rw [if_pos rfl, if_pos (by omega)]
  · rw [if_neg h]
    by_cases h2 : q < i
    · rw [if_pos h2, if_pos (by omega)]
    · rw [if_neg h2, if_neg (by omega)]
theorem bc_f {s : Nat} (h : s < 65536) : ((s / 2 ^ 1) &&& 1431655765) ≤ s ∧ bc1 s < 65536 ∧ bc2 (bc1 s) < 2 ^ 20 ∧ bc3 (bc2 (bc1 s)) < 2 ^ 22 ∧ bc4 (bc3 (bc2 (bc1 s))) < 2 ^ 24 := by
  have h1 : ((s / 2 ^ 1) &&& 1431655765) ≤ s / 2 ^ 1 := Nat.and_le_left
  have h2 : bc1 s ≤ s := Nat.sub_le _ _
  have h3 : (bc1 s &&& 858993459) ≤ bc1 s := Nat.and_le_left
  have h4 : ((bc1 s / 2 ^ 2) &&& 858993459) ≤ bc1 s / 2 ^ 2 := Nat.and_le_left
  have e2 : bc2 (bc1 s) = (bc1 s &&& 858993459) + ((bc1 s / 2 ^ 2) &&& 858993459) := rfl
  have h5 : bc3 (bc2 (bc1 s)) ≤ bc2 (bc1 s) + bc2 (bc1 s) / 2 ^ 4 := Nat.and_le_left
  have e4 : bc4 (bc3 (bc2 (bc1 s))) = bc3 (bc2 (bc1 s)) + bc3 (bc2 (bc1 s)) / 2 ^ 8 := rfl
  refine ⟨by omega, by omega, by omega, by omega, by omega⟩
set_option maxHeartbeats 4000000 in
set_option maxRecDepth 100000 in
theorem c_J6_bitCount_0f7a4 (l : Launch) (q0 : Nat) (hq : q0 < 65536) : Met l yJ6_bitCount_0f7a4 wsJ6_bitCount_0f7a4 ({ frames := 0, cells := 0, slots := 0, locals := 0 } : Room) (P0 [.int (nI (q0))]) (vp_Si (fun z9 => z9 = nI (pc q0))) 0 0 (fun _ => False) := by
  refine Met.ofW (cc := cJ6_bitCount_0f7a4) (maxL := 1) (ret := (some .int)) (by decide) rfl ?_
  intro p e s m args below meth c s₁ B hml hv
  obtain ⟨rfl, -⟩ := hv
  have hx := B.exec
  have hb := B.bytes
  have hr := B.returns
  have hts := atoms_spec (ws := wsJ6_bitCount_0f7a4) B.pre
  have hown : s.vm.findClass RJ6 = some m.cls := findClass_of_methodNamed B.named
  have hlocks := B.notSynchronized
  have hl := lv_entry ([.int (nI (q0))]) (n := 1) (Nat.le_of_ble_eq_true rfl)
  rw [lg_entry_eq]
  generalize (lg_sl ([.int (nI (q0))]) ++ List.replicate (1 - (lg_sl ([.int (nI (q0))])).length) Slot.unset).toArray = ls at hl ⊢
  have hl : lv_has ls 1 [(0, .int (nI (q0)))] := hl
  have hbf := bc_f hq
  refine lv_iload_n hx hb dJ6_bitCount_0f7a4_0 rfl (lv_at hl 0 rfl) ?_
  refine lv_iload_n hx hb dJ6_bitCount_0f7a4_1 rfl (lv_at hl 0 rfl) ?_
  refine lv_iconst (v := nI (1)) hx hb dJ6_bitCount_0f7a4_2 (by decide) ?_
  refine lv_iushr (v := nI ((q0) / 2 ^ 1)) hx hb dJ6_bitCount_0f7a4_3 (nI_ushr (by omega) (by decide)) ?_
  refine lv_ldcw hx hb hown (hts (.constant RJ6 265 (1431655765)) (List.mem_of_getElem? (i := 1) rfl)) dJ6_bitCount_0f7a4_4 ?_
  refine q_top (show (1431655765) = nI (1431655765) from rfl) ?_
  refine lv_iand hx hb dJ6_bitCount_0f7a4_7 ?_
  refine q_top (show (nI ((q0) / 2 ^ 1) &&& nI (1431655765)) = nI (((q0) / 2 ^ 1) &&& (1431655765)) from nI_and _ _) ?_
  refine lv_isub hx hb dJ6_bitCount_0f7a4_8 ?_
  refine q_top (show (nI (q0) - nI (((q0) / 2 ^ 1) &&& (1431655765))) = nI (q0 - (((q0) / 2 ^ 1) &&& (1431655765))) from pk_sub (by omega)) ?_
  refine q_top (show nI (q0 - (((q0) / 2 ^ 1) &&& (1431655765))) = nI (bc1 q0) from rfl) ?_
  refine lv_istore_n (lv' := [(0, .int (nI (bc1 q0)))]) hx hb dJ6_bitCount_0f7a4_9 rfl hl (by decide) rfl (fun ls hl => ?_)
  refine lv_iload_n hx hb dJ6_bitCount_0f7a4_10 rfl (lv_at hl 0 rfl) ?_
  refine lv_ldcw hx hb hown (hts (.constant RJ6 266 (858993459)) (List.mem_of_getElem? (i := 2) rfl)) dJ6_bitCount_0f7a4_11 ?_
  refine q_top (show (858993459) = nI (858993459) from rfl) ?_
  refine lv_iand hx hb dJ6_bitCount_0f7a4_14 ?_
  refine q_top (show (nI (bc1 q0) &&& nI (858993459)) = nI ((bc1 q0) &&& (858993459)) from nI_and _ _) ?_
  refine lv_iload_n hx hb dJ6_bitCount_0f7a4_15 rfl (lv_at hl 0 rfl) ?_
  refine lv_iconst (v := nI (2)) hx hb dJ6_bitCount_0f7a4_16 (by decide) ?_
  refine lv_iushr (v := nI ((bc1 q0) / 2 ^ 2)) hx hb dJ6_bitCount_0f7a4_17 (nI_ushr (by omega) (by decide)) ?_
  refine lv_ldcw hx hb hown (hts (.constant RJ6 266 (858993459)) (List.mem_of_getElem? (i := 2) rfl)) dJ6_bitCount_0f7a4_18 ?_
  refine q_top (show (858993459) = nI (858993459) from rfl) ?_
  refine lv_iand hx hb dJ6_bitCount_0f7a4_21 ?_
  refine q_top (show (nI ((bc1 q0) / 2 ^ 2) &&& nI (858993459)) = nI (((bc1 q0) / 2 ^ 2) &&& (858993459)) from nI_and _ _) ?_
  refine lv_iadd hx hb dJ6_bitCount_0f7a4_22 ?_
  refine q_top (show (nI ((bc1 q0) &&& (858993459)) + nI (((bc1 q0) / 2 ^ 2) &&& (858993459))) = nI (((bc1 q0) &&& (858993459)) + (((bc1 q0) / 2 ^ 2) &&& (858993459))) from nI_add _ _) ?_
  refine q_top (show nI (((bc1 q0) &&& (858993459)) + (((bc1 q0) / 2 ^ 2) &&& (858993459))) = nI (bc2 (bc1 q0)) from rfl) ?_
  refine lv_istore_n (lv' := [(0, .int (nI (bc2 (bc1 q0))))]) hx hb dJ6_bitCount_0f7a4_23 rfl hl (by decide) rfl (fun ls hl => ?_)
  refine lv_iload_n hx hb dJ6_bitCount_0f7a4_24 rfl (lv_at hl 0 rfl) ?_
  refine lv_iload_n hx hb dJ6_bitCount_0f7a4_25 rfl (lv_at hl 0 rfl) ?_
  refine lv_iconst (v := nI (4)) hx hb dJ6_bitCount_0f7a4_26 (by decide) ?_
  refine lv_iushr (v := nI ((bc2 (bc1 q0)) / 2 ^ 4)) hx hb dJ6_bitCount_0f7a4_27 (nI_ushr (by omega) (by decide)) ?_
  refine lv_iadd hx hb dJ6_bitCount_0f7a4_28 ?_
  refine q_top (show (nI (bc2 (bc1 q0)) + nI ((bc2 (bc1 q0)) / 2 ^ 4)) = nI (bc2 (bc1 q0) + ((bc2 (bc1 q0)) / 2 ^ 4)) from nI_add _ _) ?_
  refine lv_ldcw hx hb hown (hts (.constant RJ6 267 (252645135)) (List.mem_of_getElem? (i := 3) rfl)) dJ6_bitCount_0f7a4_29 ?_
  refine q_top (show (252645135) = nI (252645135) from rfl) ?_
  refine lv_iand hx hb dJ6_bitCount_0f7a4_32 ?_
  refine q_top (show (nI (bc2 (bc1 q0) + ((bc2 (bc1 q0)) / 2 ^ 4)) &&& nI (252645135)) = nI ((bc2 (bc1 q0) + ((bc2 (bc1 q0)) / 2 ^ 4)) &&& (252645135)) from nI_and _ _) ?_
  refine q_top (show nI ((bc2 (bc1 q0) + ((bc2 (bc1 q0)) / 2 ^ 4)) &&& (252645135)) = nI (bc3 (bc2 (bc1 q0))) from rfl) ?_
  refine lv_istore_n (lv' := [(0, .int (nI (bc3 (bc2 (bc1 q0)))))]) hx hb dJ6_bitCount_0f7a4_33 rfl hl (by decide) rfl (fun ls hl => ?_)
  refine lv_iload_n hx hb dJ6_bitCount_0f7a4_34 rfl (lv_at hl 0 rfl) ?_
  refine lv_iload_n hx hb dJ6_bitCount_0f7a4_35 rfl (lv_at hl 0 rfl) ?_
  refine lv_bipush (v := nI (8)) hx hb dJ6_bitCount_0f7a4_36 (by decide) ?_
  refine lv_iushr (v := nI ((bc3 (bc2 (bc1 q0))) / 2 ^ 8)) hx hb dJ6_bitCount_0f7a4_38 (nI_ushr (by omega) (by decide)) ?_
  refine lv_iadd hx hb dJ6_bitCount_0f7a4_39 ?_
  refine q_top (show (nI (bc3 (bc2 (bc1 q0))) + nI ((bc3 (bc2 (bc1 q0))) / 2 ^ 8)) = nI (bc3 (bc2 (bc1 q0)) + ((bc3 (bc2 (bc1 q0))) / 2 ^ 8)) from nI_add _ _) ?_
  refine q_top (show nI (bc3 (bc2 (bc1 q0)) + ((bc3 (bc2 (bc1 q0))) / 2 ^ 8)) = nI (bc4 (bc3 (bc2 (bc1 q0)))) from rfl) ?_
  refine lv_istore_n (lv' := [(0, .int (nI (bc4 (bc3 (bc2 (bc1 q0))))))]) hx hb dJ6_bitCount_0f7a4_40 rfl hl (by decide) rfl (fun ls hl => ?_)
  refine lv_iload_n hx hb dJ6_bitCount_0f7a4_41 rfl (lv_at hl 0 rfl) ?_
  refine lv_iload_n hx hb dJ6_bitCount_0f7a4_42 rfl (lv_at hl 0 rfl) ?_
  refine lv_bipush (v := nI (16)) hx hb dJ6_bitCount_0f7a4_43 (by decide) ?_
  refine lv_iushr (v := nI ((bc4 (bc3 (bc2 (bc1 q0)))) / 2 ^ 16)) hx hb dJ6_bitCount_0f7a4_45 (nI_ushr (by omega) (by decide)) ?_
  refine lv_iadd hx hb dJ6_bitCount_0f7a4_46 ?_
  refine q_top (show (nI (bc4 (bc3 (bc2 (bc1 q0)))) + nI ((bc4 (bc3 (bc2 (bc1 q0)))) / 2 ^ 16)) = nI (bc4 (bc3 (bc2 (bc1 q0))) + ((bc4 (bc3 (bc2 (bc1 q0)))) / 2 ^ 16)) from nI_add _ _) ?_
  refine q_top (show nI (bc4 (bc3 (bc2 (bc1 q0))) + ((bc4 (bc3 (bc2 (bc1 q0)))) / 2 ^ 16)) = nI (bc5 (bc4 (bc3 (bc2 (bc1 q0))))) from rfl) ?_
  refine lv_istore_n (lv' := [(0, .int (nI (bc5 (bc4 (bc3 (bc2 (bc1 q0)))))))]) hx hb dJ6_bitCount_0f7a4_47 rfl hl (by decide) rfl (fun ls hl => ?_)
  refine lv_iload_n hx hb dJ6_bitCount_0f7a4_48 rfl (lv_at hl 0 rfl) ?_
  refine lv_bipush (v := nI (63)) hx hb dJ6_bitCount_0f7a4_49 (by decide) ?_
  refine lv_iand hx hb dJ6_bitCount_0f7a4_51 ?_
  refine q_top (show (nI (bc5 (bc4 (bc3 (bc2 (bc1 q0))))) &&& nI (63)) = nI ((bc5 (bc4 (bc3 (bc2 (bc1 q0))))) &&& (63)) from nI_and _ _) ?_
  exact W.iret (v := nI ((bc5 (bc4 (bc3 (bc2 (bc1 q0))))) &&& (63))) hx hb hr (fun t ht hW => ⟨_, rfl, (by rw [bc_ok hq]), ht⟩) (fun q h => by cases h) dJ6_bitCount_0f7a4_52

set_option maxHeartbeats 4000000 in
set_option maxRecDepth 100000 in
theorem c_X3_isFieldNumber (l : Launch) (x : Int32) : Met l yX3_isFieldNumber wsX3_isFieldNumber ({ frames := 0, cells := 0, slots := 0, locals := 0 } : Room) (P0 [.int (x)]) (vp_Si (fun z9 => (z9 = nI (1) ∧ (0 ≤ x.toInt ∧ x.toInt ≤ 255)) ∨ (z9 = nI (0) ∧ (¬ (0 ≤ x.toInt ∧ x.toInt ≤ 255))))) 0 0 (fun _ => False) := by
  refine Met.ofW (cc := cX3_isFieldNumber) (maxL := 1) (ret := (some .boolean)) (by decide) rfl ?_
  intro p e s m args below meth c s₁ B hml hv
  obtain ⟨rfl, -⟩ := hv
  have hx := B.exec
  have hb := B.bytes
  have hr := B.returns
  have hts := atoms_spec (ws := wsX3_isFieldNumber) B.pre
  have hown : s.vm.findClass RX3 = some m.cls := findClass_of_methodNamed B.named
  have hlocks := B.notSynchronized
  have hl := lv_entry ([.int (x)]) (n := 1) (Nat.le_of_ble_eq_true rfl)
  rw [lg_entry_eq]
  generalize (lg_sl ([.int (x)]) ++ List.replicate (1 - (lg_sl ([.int (x)])).length) Slot.unset).toArray = ls at hl ⊢
  have hl : lv_has ls 1 [(0, .int (x))] := hl
  refine lv_iload_n hx hb dX3_isFieldNumber_0 rfl (lv_at hl 0 rfl) ?_
  refine q_if_lt (u := (x).toInt) (tgt := 15) hx hb dX3_isFieldNumber_1 (by decide) (rfl) (fun c_1 => ?_) (fun c_1 => ?_)
  · skip
    refine lv_iconst (v := nI (0)) hx hb dX3_isFieldNumber_15 (by decide) ?_
    exact W.zret (v := nI (0)) hx hb hr (rfl) (fun t ht hW => ⟨_, rfl, (by first | exact Or.inl ⟨rfl, by omega⟩ | exact Or.inr ⟨rfl, by omega⟩), ht⟩) (fun q h => by cases h) dX3_isFieldNumber_16
  · skip
    refine lv_iload_n hx hb dX3_isFieldNumber_4 rfl (lv_at hl 0 rfl) ?_
    refine lv_sipush (v := nI (255)) hx hb dX3_isFieldNumber_5 (by decide) ?_
    refine q_icmp_gt (u := (x).toInt) (v := ((255 : Nat) : Int)) (tgt := 15) hx hb dX3_isFieldNumber_8 (by decide) (rfl) (nI_toInt (by omega)) (fun c_8 => ?_) (fun c_8 => ?_)
    · skip
      refine lv_iconst (v := nI (0)) hx hb dX3_isFieldNumber_15 (by decide) ?_
      exact W.zret (v := nI (0)) hx hb hr (rfl) (fun t ht hW => ⟨_, rfl, (by first | exact Or.inl ⟨rfl, by omega⟩ | exact Or.inr ⟨rfl, by omega⟩), ht⟩) (fun q h => by cases h) dX3_isFieldNumber_16
    · skip
      refine lv_iconst (v := nI (1)) hx hb dX3_isFieldNumber_11 (by decide) ?_
      refine lv_goto (tgt := 16) hx hb dX3_isFieldNumber_12 (by decide) ?_
      exact W.zret (v := nI (1)) hx hb hr (rfl) (fun t ht hW => ⟨_, rfl, (by first | exact Or.inl ⟨rfl, by omega⟩ | exact Or.inr ⟨rfl, by omega⟩), ht⟩) (fun q h => by cases h) dX3_isFieldNumber_16

theorem htX3_demandLosses_51 : ∀ w ∈ (vx_atS RX3 51 "java/lang/IllegalArgumentException" ["java/lang/RuntimeException", "java/lang/Exception"]).filter goodWord, w ∈ wsX3_demandLosses := by decide +kernel
set_option maxHeartbeats 4000000 in
set_option maxRecDepth 100000 in
theorem c_X3_demandLosses (l : Launch) (D : va_G) (cI cZ cQ cL : ClassId) (hfl : l.stackTraces = false) (b0 : Nat) (x : Int32) (sz : Nat) : vx_Met l yX3_demandLosses wsX3_demandLosses ({ frames := 6, cells := 1, slots := 6, locals := 96 } : Room) (P0X b0 [.int (x)]) (va_Sv (fun _ => 0 ≤ x.toInt ∧ x.toInt ≤ 2047)) (XC (fun E => E = "java/lang/IllegalArgumentException" ∧ ¬ (0 ≤ x.toInt ∧ x.toInt ≤ 2047))) 1 6 (fun _ => False) := by
  refine vx_ofW (cc := cX3_demandLosses) (maxL := 1) (ret := none) (by decide) rfl ?_
  intro p e s m args below meth c s₁ B hml htab hv
  obtain ⟨rfl, hX⟩ := hv
  have hx := B.exec
  have hb := B.bytes
  have hr := B.returns
  have hts := atoms_spec (ws := wsX3_demandLosses) B.pre
  have hown : s.vm.findClass RX3 = some m.cls := findClass_of_methodNamed B.named
  have hlocks := B.notSynchronized
  have hl := lv_entry ([.int (x)]) (n := 1) (Nat.le_of_ble_eq_true rfl)
  rw [lg_entry_eq]
  generalize (lg_sl ([.int (x)]) ++ List.replicate (1 - (lg_sl ([.int (x)])).length) Slot.unset).toArray = ls at hl ⊢
  have hl : lv_has ls 1 [(0, .int (x))] := hl
  refine lv_iload_n hx hb dX3_demandLosses_0 rfl (lv_at hl 0 rfl) ?_
  refine q_if_lt (u := (x).toInt) (tgt := 11) hx hb dX3_demandLosses_1 (by decide) (rfl) (fun c_1 => ?_) (fun c_1 => ?_)
  · skip
    exact q_throw (b0 := b0) (text := "losses is not 0 to 2047") (Ts := wsX3_demandLosses) hx hb hfl hown (by decide +kernel) hts (List.mem_of_getElem? (i := 1) rfl) (List.mem_of_getElem? (i := 2) rfl) hX (List.mem_of_getElem? (i := 3) rfl) htX3_demandLosses_51 vx_bad_51 vx_good_51 (hl.1.trans hml.symm) dX3_demandLosses_11 dX3_demandLosses_14 dX3_demandLosses_15 dX3_demandLosses_17 dX3_demandLosses_20 htab (by decide) (by decide) (by decide) (by decide) hlocks (by first | exact ⟨rfl, by omega⟩ | omega) (by decide) (by decide)
  · skip
    refine lv_iload_n hx hb dX3_demandLosses_4 rfl (lv_at hl 0 rfl) ?_
    refine lv_sipush (v := nI (2047)) hx hb dX3_demandLosses_5 (by decide) ?_
    refine q_icmp_le (u := (x).toInt) (v := ((2047 : Nat) : Int)) (tgt := 21) hx hb dX3_demandLosses_8 (by decide) (rfl) (nI_toInt (by omega)) (fun c_8 => ?_) (fun c_8 => ?_)
    · skip
      refine W.widen (k := 1) (n := 6) (by decide) (by decide) ?_
      refine vx_ret ?_
      exact W.vret hx hb hr (fun t ht hW => ⟨rfl, (by show _ ∧ _; omega), ht⟩) (fun q h => by cases h) dX3_demandLosses_21
    · skip
      exact q_throw (b0 := b0) (text := "losses is not 0 to 2047") (Ts := wsX3_demandLosses) hx hb hfl hown (by decide +kernel) hts (List.mem_of_getElem? (i := 1) rfl) (List.mem_of_getElem? (i := 2) rfl) hX (List.mem_of_getElem? (i := 3) rfl) htX3_demandLosses_51 vx_bad_51 vx_good_51 (hl.1.trans hml.symm) dX3_demandLosses_11 dX3_demandLosses_14 dX3_demandLosses_15 dX3_demandLosses_17 dX3_demandLosses_20 htab (by decide) (by decide) (by decide) (by decide) hlocks (by first | exact ⟨rfl, by omega⟩ | omega) (by decide) (by decide)

theorem htX3_demandWait_51 : ∀ w ∈ (vx_atS RX3 51 "java/lang/IllegalArgumentException" ["java/lang/RuntimeException", "java/lang/Exception"]).filter goodWord, w ∈ wsX3_demandWait := by decide +kernel
set_option maxHeartbeats 4000000 in
set_option maxRecDepth 100000 in
theorem c_X3_demandWait (l : Launch) (D : va_G) (cI cZ cQ cL : ClassId) (hfl : l.stackTraces = false) (b0 : Nat) (x : Int32) (sz : Nat) : vx_Met l yX3_demandWait wsX3_demandWait ({ frames := 6, cells := 1, slots := 6, locals := 96 } : Room) (P0X b0 [.int (x)]) (va_Sv (fun _ => 0 ≤ x.toInt ∧ x.toInt ≤ 20)) (XC (fun E => E = "java/lang/IllegalArgumentException" ∧ ¬ (0 ≤ x.toInt ∧ x.toInt ≤ 20))) 1 6 (fun _ => False) := by
  refine vx_ofW (cc := cX3_demandWait) (maxL := 1) (ret := none) (by decide) rfl ?_
  intro p e s m args below meth c s₁ B hml htab hv
  obtain ⟨rfl, hX⟩ := hv
  have hx := B.exec
  have hb := B.bytes
  have hr := B.returns
  have hts := atoms_spec (ws := wsX3_demandWait) B.pre
  have hown : s.vm.findClass RX3 = some m.cls := findClass_of_methodNamed B.named
  have hlocks := B.notSynchronized
  have hl := lv_entry ([.int (x)]) (n := 1) (Nat.le_of_ble_eq_true rfl)
  rw [lg_entry_eq]
  generalize (lg_sl ([.int (x)]) ++ List.replicate (1 - (lg_sl ([.int (x)])).length) Slot.unset).toArray = ls at hl ⊢
  have hl : lv_has ls 1 [(0, .int (x))] := hl
  refine lv_iload_n hx hb dX3_demandWait_0 rfl (lv_at hl 0 rfl) ?_
  refine q_if_lt (u := (x).toInt) (tgt := 10) hx hb dX3_demandWait_1 (by decide) (rfl) (fun c_1 => ?_) (fun c_1 => ?_)
  · skip
    exact q_throw (b0 := b0) (text := "wait is not 0 to 20") (Ts := wsX3_demandWait) hx hb hfl hown (by decide +kernel) hts (List.mem_of_getElem? (i := 1) rfl) (List.mem_of_getElem? (i := 2) rfl) hX (List.mem_of_getElem? (i := 4) rfl) htX3_demandWait_51 vx_bad_51 vx_good_51 (hl.1.trans hml.symm) dX3_demandWait_10 dX3_demandWait_13 dX3_demandWait_14 dX3_demandWait_16 dX3_demandWait_19 htab (by decide) (by decide) (by decide) (by decide) hlocks (by first | exact ⟨rfl, by omega⟩ | omega) (by decide) (by decide)
  · skip
    refine lv_iload_n hx hb dX3_demandWait_4 rfl (lv_at hl 0 rfl) ?_
    refine lv_bipush (v := nI (20)) hx hb dX3_demandWait_5 (by decide) ?_
    refine q_icmp_le (u := (x).toInt) (v := ((20 : Nat) : Int)) (tgt := 20) hx hb dX3_demandWait_7 (by decide) (rfl) (nI_toInt (by omega)) (fun c_7 => ?_) (fun c_7 => ?_)
    · skip
      refine W.widen (k := 1) (n := 6) (by decide) (by decide) ?_
      refine vx_ret ?_
      exact W.vret hx hb hr (fun t ht hW => ⟨rfl, (by show _ ∧ _; omega), ht⟩) (fun q h => by cases h) dX3_demandWait_20
    · skip
      exact q_throw (b0 := b0) (text := "wait is not 0 to 20") (Ts := wsX3_demandWait) hx hb hfl hown (by decide +kernel) hts (List.mem_of_getElem? (i := 1) rfl) (List.mem_of_getElem? (i := 2) rfl) hX (List.mem_of_getElem? (i := 4) rfl) htX3_demandWait_51 vx_bad_51 vx_good_51 (hl.1.trans hml.symm) dX3_demandWait_10 dX3_demandWait_13 dX3_demandWait_14 dX3_demandWait_16 dX3_demandWait_19 htab (by decide) (by decide) (by decide) (by decide) hlocks (by first | exact ⟨rfl, by omega⟩ | omega) (by decide) (by decide)

theorem htX3_demandReceiver_133 : ∀ w ∈ (vx_atS RX3 133 "java/lang/IndexOutOfBoundsException" ["java/lang/RuntimeException", "java/lang/Exception"]).filter goodWord, w ∈ wsX3_demandReceiver := by decide +kernel
theorem iwX3_demandReceiver_X3 : ∀ w ∈ wsX30, w ∈ wsX3_demandReceiver := by decide +kernel
set_option maxHeartbeats 4000000 in
set_option maxRecDepth 100000 in
theorem c_X3_demandReceiver (l : Launch) (D : va_G) (cI cZ cQ cL : ClassId) (hfl : l.stackTraces = false) (b0 : Nat) (ad : Nat → Nat) (pat : Nat) (sent : Nat) (rep : Nat) (kept : Nat) (rc : Nat) (los : Nat → Nat) (wai : Nat → Nat) (set : Nat → Nat) (bad : Nat → Nat) (gon : Nat → Nat) (bk : Nat) (bp : Nat → B8) (bv : Nat → B8) (x : Int32) (sz : Nat) (hrc : rc ≤ 6) : vx_Met l yX3_demandReceiver wsX3_demandReceiver ({ frames := 6, cells := 1, slots := 6, locals := 96 } : Room) (PX b0 D (TY cI cZ cQ cL) (wA cI cZ ad (pat) (sent) (rep) (kept) (rc) (los) (wai) (set) (bad) (gon) (bk) (bp) (bv)) sz [.ref (ad 0), .int (x)]) (va_Sv (fun _ => 0 ≤ x.toInt ∧ x.toInt < rc)) (XC (fun E => E = "java/lang/IndexOutOfBoundsException" ∧ ¬ (0 ≤ x.toInt ∧ x.toInt < rc))) 1 6 (fun _ => False) := by
  refine vx_ofW (cc := cX3_demandReceiver) (maxL := 2) (ret := none) (by decide) rfl ?_
  intro p e s m args below meth c s₁ B hml htab hv
  obtain ⟨rfl, hsz, hP, hK, hD0, hN, hX⟩ := hv
  have hx := B.exec
  have hb := B.bytes
  have hr := B.returns
  have hts := atoms_spec (ws := wsX3_demandReceiver) B.pre
  have hown : s.vm.findClass RX3 = some m.cls := findClass_of_methodNamed B.named
  have hlocks := B.notSynchronized
  subst hsz
  have hD := hD0
  have hl := lv_entry ([.ref (ad 0), .int (x)]) (n := 2) (Nat.le_of_ble_eq_true rfl)
  rw [lg_entry_eq]
  generalize (lg_sl ([.ref (ad 0), .int (x)]) ++ List.replicate (2 - (lg_sl ([.ref (ad 0), .int (x)])).length) Slot.unset).toArray = ls at hl ⊢
  have hl : lv_has ls 2 [(0, .ref (ad 0)), (1, .int (x))] := hl
  refine lv_iload_n hx hb dX3_demandReceiver_0 rfl (lv_at hl 1 rfl) ?_
  refine q_if_lt (u := (x).toInt) (tgt := 12) hx hb dX3_demandReceiver_1 (by decide) (rfl) (fun c_1 => ?_) (fun c_1 => ?_)
  · skip
    exact q_throw (b0 := b0) (text := "no such receiver") (Ts := wsX3_demandReceiver) hx hb hfl hown (by decide +kernel) hts (List.mem_of_getElem? (i := 1) rfl) (List.mem_of_getElem? (i := 2) rfl) hX (List.mem_of_getElem? (i := 5) rfl) htX3_demandReceiver_133 vx_bad_133 vx_good_133 (hl.1.trans hml.symm) dX3_demandReceiver_12 dX3_demandReceiver_15 dX3_demandReceiver_16 dX3_demandReceiver_18 dX3_demandReceiver_21 htab (by decide) (by decide) (by decide) (by decide) hlocks (by first | exact ⟨rfl, by omega⟩ | omega) (by decide) (by decide)
  · skip
    refine lv_iload_n hx hb dX3_demandReceiver_4 rfl (lv_at hl 1 rfl) ?_
    refine lv_aload_n hx hb dX3_demandReceiver_5 rfl (lv_at hl 0 rfl) ?_
    refine va_get (D := D) (ci := 2) (v := .int (nI (rc))) (C := RX3) (T := TX3) (N := 13) hx hb hts iwX3_demandReceiver_X3 hown hK hP 0 rfl rfl 5 (by decide) (hts (.fieldLink RX3 84 "RepairSender" "receiverCount" "I") (List.mem_of_getElem? (i := 3) rfl)) (fun _ h9 => h9) rfl dX3_demandReceiver_6 ?_
    refine q_icmp_lt (u := (x).toInt) (v := ((rc : Nat) : Int)) (tgt := 22) hx hb dX3_demandReceiver_9 (by decide) (rfl) (nI_toInt (by omega)) (fun c_9 => ?_) (fun c_9 => ?_)
    · skip
      refine W.widen (k := 1) (n := 6) (by decide) (by decide) ?_
      refine vx_ret ?_
      exact W.vret hx hb hr (fun t ht hW => ⟨rfl, (by show _ ∧ _; omega), ht⟩) (fun q h => by cases h) dX3_demandReceiver_22
    · skip
      exact q_throw (b0 := b0) (text := "no such receiver") (Ts := wsX3_demandReceiver) hx hb hfl hown (by decide +kernel) hts (List.mem_of_getElem? (i := 1) rfl) (List.mem_of_getElem? (i := 2) rfl) hX (List.mem_of_getElem? (i := 5) rfl) htX3_demandReceiver_133 vx_bad_133 vx_good_133 (hl.1.trans hml.symm) dX3_demandReceiver_12 dX3_demandReceiver_15 dX3_demandReceiver_16 dX3_demandReceiver_18 dX3_demandReceiver_21 htab (by decide) (by decide) (by decide) (by decide) hlocks (by first | exact ⟨rfl, by omega⟩ | omega) (by decide) (by decide)

theorem htX3_demandPlace_133 : ∀ w ∈ (vx_atS RX3 133 "java/lang/IndexOutOfBoundsException" ["java/lang/RuntimeException", "java/lang/Exception"]).filter goodWord, w ∈ wsX3_demandPlace := by decide +kernel
theorem iwX3_demandPlace_X3 : ∀ w ∈ wsX30, w ∈ wsX3_demandPlace := by decide +kernel
theorem iwX3_demandPlace_X2 : ∀ w ∈ wsX20, w ∈ wsX3_demandPlace := by decide +kernel
set_option maxHeartbeats 4000000 in
set_option maxRecDepth 100000 in
theorem c_X3_demandPlace (l : Launch) (D : va_G) (cI cZ cQ cL : ClassId) (hfl : l.stackTraces = false) (b0 : Nat) (ad : Nat → Nat) (pat : Nat) (sent : Nat) (rep : Nat) (kept : Nat) (rc : Nat) (los : Nat → Nat) (wai : Nat → Nat) (set : Nat → Nat) (bad : Nat → Nat) (gon : Nat → Nat) (bk : Nat) (bp : Nat → B8) (bv : Nat → B8) (x : Int32) (sz : Nat) (hbk : bk ≤ 8) : vx_Met l yX3_demandPlace wsX3_demandPlace ({ frames := 6, cells := 1, slots := 6, locals := 96 } : Room) (PX b0 D (TY cI cZ cQ cL) (wA cI cZ ad (pat) (sent) (rep) (kept) (rc) (los) (wai) (set) (bad) (gon) (bk) (bp) (bv)) sz [.ref (ad 0), .int (x)]) (va_Sv (fun _ => 0 ≤ x.toInt ∧ x.toInt < bk)) (XC (fun E => E = "java/lang/IndexOutOfBoundsException" ∧ ¬ (0 ≤ x.toInt ∧ x.toInt < bk))) 1 6 (fun _ => False) := by
  refine vx_ofW (cc := cX3_demandPlace) (maxL := 2) (ret := none) (by decide) rfl ?_
  intro p e s m args below meth c s₁ B hml htab hv
  obtain ⟨rfl, hsz, hP, hK, hD0, hN, hX⟩ := hv
  have hx := B.exec
  have hb := B.bytes
  have hr := B.returns
  have hts := atoms_spec (ws := wsX3_demandPlace) B.pre
  have hown : s.vm.findClass RX3 = some m.cls := findClass_of_methodNamed B.named
  have hlocks := B.notSynchronized
  subst hsz
  have hD := hD0
  have hl := lv_entry ([.ref (ad 0), .int (x)]) (n := 2) (Nat.le_of_ble_eq_true rfl)
  rw [lg_entry_eq]
  generalize (lg_sl ([.ref (ad 0), .int (x)]) ++ List.replicate (2 - (lg_sl ([.ref (ad 0), .int (x)])).length) Slot.unset).toArray = ls at hl ⊢
  have hl : lv_has ls 2 [(0, .ref (ad 0)), (1, .int (x))] := hl
  refine lv_iload_n hx hb dX3_demandPlace_0 rfl (lv_at hl 1 rfl) ?_
  refine q_if_lt (u := (x).toInt) (tgt := 15) hx hb dX3_demandPlace_1 (by decide) (rfl) (fun c_1 => ?_) (fun c_1 => ?_)
  · skip
    exact q_throw (b0 := b0) (text := "no such place") (Ts := wsX3_demandPlace) hx hb hfl hown (by decide +kernel) hts (List.mem_of_getElem? (i := 1) rfl) (List.mem_of_getElem? (i := 2) rfl) hX (List.mem_of_getElem? (i := 6) rfl) htX3_demandPlace_133 vx_bad_133 vx_good_133 (hl.1.trans hml.symm) dX3_demandPlace_15 dX3_demandPlace_18 dX3_demandPlace_19 dX3_demandPlace_21 dX3_demandPlace_24 htab (by decide) (by decide) (by decide) (by decide) hlocks (by first | exact ⟨rfl, by omega⟩ | omega) (by decide) (by decide)
  · skip
    refine lv_iload_n hx hb dX3_demandPlace_4 rfl (lv_at hl 1 rfl) ?_
    refine lv_aload_n hx hb dX3_demandPlace_5 rfl (lv_at hl 0 rfl) ?_
    refine va_get (D := D) (ci := 2) (v := .ref (ad 6)) (C := RX3) (T := TX3) (N := 13) hx hb hts iwX3_demandPlace_X3 hown hK hP 0 rfl rfl 0 (by decide) (hts (.fieldLink RX3 10 "RepairSender" "block" "LRepairSender$Points;") (List.mem_of_getElem? (i := 3) rfl)) (fun _ h9 => h9) rfl dX3_demandPlace_6 ?_
    refine va_getN (D := D) (ci := 1) (v := .int (nI (bk))) (C := RX2) (T := TX2) (N := 3) (host := "RepairSender") hx hb hts iwX3_demandPlace_X2 hown hK hP 6 rfl rfl 2 (by decide) (va_Nw.use rfl (hN _ (List.mem_of_getElem? (i := 5) rfl))) (fun _ h9 => h9) rfl dX3_demandPlace_9 ?_
    refine q_icmp_lt (u := (x).toInt) (v := ((bk : Nat) : Int)) (tgt := 25) hx hb dX3_demandPlace_12 (by decide) (rfl) (nI_toInt (by omega)) (fun c_12 => ?_) (fun c_12 => ?_)
    · skip
      refine W.widen (k := 1) (n := 6) (by decide) (by decide) ?_
      refine vx_ret ?_
      exact W.vret hx hb hr (fun t ht hW => ⟨rfl, (by show _ ∧ _; omega), ht⟩) (fun q h => by cases h) dX3_demandPlace_25
    · skip
      exact q_throw (b0 := b0) (text := "no such place") (Ts := wsX3_demandPlace) hx hb hfl hown (by decide +kernel) hts (List.mem_of_getElem? (i := 1) rfl) (List.mem_of_getElem? (i := 2) rfl) hX (List.mem_of_getElem? (i := 6) rfl) htX3_demandPlace_133 vx_bad_133 vx_good_133 (hl.1.trans hml.symm) dX3_demandPlace_15 dX3_demandPlace_18 dX3_demandPlace_19 dX3_demandPlace_21 dX3_demandPlace_24 htab (by decide) (by decide) (by decide) (by decide) hlocks (by first | exact ⟨rfl, by omega⟩ | omega) (by decide) (by decide)

theorem iwX3_needOf_X3 : ∀ w ∈ wsX30, w ∈ wsX3_needOf := by decide +kernel
theorem iwX3_needOf_X2 : ∀ w ∈ wsX20, w ∈ wsX3_needOf := by decide +kernel
set_option maxHeartbeats 4000000 in
set_option maxRecDepth 100000 in
theorem c_X3_needOf (l : Launch) (D : va_G) (cI cZ cQ cL : ClassId) (ad : Nat → Nat) (pat : Nat) (sent : Nat) (rep : Nat) (kept : Nat) (rc : Nat) (los : Nat → Nat) (wai : Nat → Nat) (set : Nat → Nat) (bad : Nat → Nat) (gon : Nat → Nat) (bk : Nat) (bp : Nat → B8) (bv : Nat → B8) (r : Nat) (sz : Nat) (hr6 : r < 6) (hset : ∀ r, r < 6 → set r < 65536) (hbk : bk ≤ 8) : Met l yX3_needOf wsX3_needOf ({ frames := 1, cells := 0, slots := 0, locals := 20 } : Room) (PW D (TY cI cZ cQ cL) (wA cI cZ ad (pat) (sent) (rep) (kept) (rc) (los) (wai) (set) (bad) (gon) (bk) (bp) (bv)) sz [.ref (ad 0), .int (nI (r))]) (vp_Si (fun z9 => z9 = nI (bk - pc (set r)))) 0 0 (fun _ => False) := by
  refine Met.ofW (cc := cX3_needOf) (maxL := 2) (ret := (some .int)) (by decide) rfl ?_
  intro p e s m args below meth c s₁ B hml hv
  obtain ⟨rfl, hsz, hP, hK, hD0, hN⟩ := hv
  have hx := B.exec
  have hb := B.bytes
  have hr := B.returns
  have hts := atoms_spec (ws := wsX3_needOf) B.pre
  have hown : s.vm.findClass RX3 = some m.cls := findClass_of_methodNamed B.named
  have hlocks := B.notSynchronized
  subst hsz
  have hD := hD0
  have hl := lv_entry ([.ref (ad 0), .int (nI (r))]) (n := 2) (Nat.le_of_ble_eq_true rfl)
  rw [lg_entry_eq]
  generalize (lg_sl ([.ref (ad 0), .int (nI (r))]) ++ List.replicate (2 - (lg_sl ([.ref (ad 0), .int (nI (r))])).length) Slot.unset).toArray = ls at hl ⊢
  have hl : lv_has ls 2 [(0, .ref (ad 0)), (1, .int (nI (r)))] := hl
  have hs6 := hset r hr6
  have hp6 := pc_le (set r)
  refine lv_iconst (v := nI (0)) hx hb dX3_needOf_0 (by decide) ?_
  refine lv_aload_n hx hb dX3_needOf_1 rfl (lv_at hl 0 rfl) ?_
  refine va_get (D := D) (ci := 2) (v := .ref (ad 6)) (C := RX3) (T := TX3) (N := 13) hx hb hts iwX3_needOf_X3 hown hK hP 0 rfl rfl 0 (by decide) (hts (.fieldLink RX3 10 "RepairSender" "block" "LRepairSender$Points;") (List.mem_of_getElem? (i := 1) rfl)) (fun _ h9 => h9) rfl dX3_needOf_2 ?_
  refine va_getN (D := D) (ci := 1) (v := .int (nI (bk))) (C := RX2) (T := TX2) (N := 3) (host := "RepairSender") hx hb hts iwX3_needOf_X2 hown hK hP 6 rfl rfl 2 (by decide) (va_Nw.use rfl (hN _ (List.mem_of_getElem? (i := 5) rfl))) (fun _ h9 => h9) rfl dX3_needOf_5 ?_
  refine lv_aload_n hx hb dX3_needOf_8 rfl (lv_at hl 0 rfl) ?_
  refine va_get (D := D) (ci := 2) (v := .ref (ad 3)) (C := RX3) (T := TX3) (N := 13) hx hb hts iwX3_needOf_X3 hown hK hP 0 rfl rfl 8 (by decide) (hts (.fieldLink RX3 23 "RepairSender" "packetSets" "[I") (List.mem_of_getElem? (i := 2) rfl)) (fun _ h9 => h9) rfl dX3_needOf_9 ?_
  refine lv_iload_n hx hb dX3_needOf_12 rfl (lv_at hl 1 rfl) ?_
  refine q_iald (f := set) (j := r) hx hb hK hP 3 0 rfl rfl (by omega) (by decide) dX3_needOf_13 ?_
  refine q_csi (va_runS (As := [.int (nI (set r))]) (rest := [.int (nI (bk)), .int (nI (0))]) ⟨hx, hb, hml, hown, hts⟩ (c_J6_bitCount_0f7a4 l (set r) (by omega)) (va_cwS 1 hts gX3_needOf_J6_bitCount_0f7a4 rfl rfl rfl hd_J6_bitCount_0f7a4 ⟨Nat.le_of_ble_eq_true rfl, Nat.le_of_ble_eq_true rfl⟩) P0_s rfl rfl hl.1 rfl (lv_room (Nat.le_of_ble_eq_true rfl)) dX3_needOf_14 ⟨Nat.le_of_ble_eq_true rfl, Nat.le_of_ble_eq_true rfl⟩) (fun r_14 hr_14 => ?_)
  obtain rfl : r_14 = nI (pc (set r)) := hr_14
  refine lv_isub hx hb dX3_needOf_17 ?_
  refine va_mmax hx hb (hml.trans hl.1.symm) hown (hts (.methodLink RX3 181 Lib.Math.max.name) (List.mem_of_getElem? (i := 3) rfl)) (hts (.static Lib.Math.max.name) (List.mem_of_getElem? (i := 4) rfl)) (hts (.initialized "java/lang/Math") (List.mem_of_getElem? (i := 5) rfl)) (hts (.code Lib.Math.max.name Lib.Math.max.code 2 (some .int)) (List.mem_of_getElem? (i := 6) rfl)) (Nat.le_of_ble_eq_true rfl) (Nat.le_of_ble_eq_true rfl) (Nat.le_of_ble_eq_true rfl) (Nat.le_of_ble_eq_true rfl) dX3_needOf_18 ?_
  refine q_top (show (if nI (0) < (nI (bk) - nI (pc (set r))) then (nI (bk) - nI (pc (set r))) else nI (0)) = nI (bk - pc (set r)) from nI_max0 (by omega) (by omega)) ?_
  exact W.iret (v := nI (bk - pc (set r))) hx hb hr (fun t ht hW => ⟨_, rfl, (by rfl), ht⟩) (fun q h => by cases h) dX3_needOf_21

theorem iwX3_isLiveAndLacks_X3 : ∀ w ∈ wsX30, w ∈ wsX3_isLiveAndLacks := by decide +kernel
set_option maxHeartbeats 4000000 in
set_option maxRecDepth 100000 in
theorem c_X3_isLiveAndLacks (l : Launch) (D : va_G) (cI cZ cQ cL : ClassId) (ad : Nat → Nat) (pat : Nat) (sent : Nat) (rep : Nat) (kept : Nat) (rc : Nat) (los : Nat → Nat) (wai : Nat → Nat) (set : Nat → Nat) (bad : Nat → Nat) (gon : Nat → Nat) (bk : Nat) (bp : Nat → B8) (bv : Nat → B8) (r : Nat) (sz : Nat) (hr6 : r < 6) (hset : ∀ r, r < 6 → set r < 65536) (hbk : bk ≤ 8) (hgon : ∀ r, r < 6 → gon r ≤ 1) : Met l yX3_isLiveAndLacks wsX3_isLiveAndLacks ({ frames := 2, cells := 0, slots := 0, locals := 41 } : Room) (PW D (TY cI cZ cQ cL) (wA cI cZ ad (pat) (sent) (rep) (kept) (rc) (los) (wai) (set) (bad) (gon) (bk) (bp) (bv)) sz [.ref (ad 0), .int (nI (r))]) (vp_Si (fun z9 => (z9 = nI (1) ∧ (gon r = 0 ∧ 0 < bk - pc (set r))) ∨ (z9 = nI (0) ∧ (¬ (gon r = 0 ∧ 0 < bk - pc (set r)))))) 0 0 (fun _ => False) := by
  refine Met.ofW (cc := cX3_isLiveAndLacks) (maxL := 2) (ret := (some .boolean)) (by decide) rfl ?_
  intro p e s m args below meth c s₁ B hml hv
  obtain ⟨rfl, hsz, hP, hK, hD0, hN⟩ := hv
  have hx := B.exec
  have hb := B.bytes
  have hr := B.returns
  have hts := atoms_spec (ws := wsX3_isLiveAndLacks) B.pre
  have hown : s.vm.findClass RX3 = some m.cls := findClass_of_methodNamed B.named
  have hlocks := B.notSynchronized
  subst hsz
  have hD := hD0
  have hl := lv_entry ([.ref (ad 0), .int (nI (r))]) (n := 2) (Nat.le_of_ble_eq_true rfl)
  rw [lg_entry_eq]
  generalize (lg_sl ([.ref (ad 0), .int (nI (r))]) ++ List.replicate (2 - (lg_sl ([.ref (ad 0), .int (nI (r))])).length) Slot.unset).toArray = ls at hl ⊢
  have hl : lv_has ls 2 [(0, .ref (ad 0)), (1, .int (nI (r)))] := hl
  have hg6 := hgon r hr6
  refine lv_aload_n hx hb dX3_isLiveAndLacks_0 rfl (lv_at hl 0 rfl) ?_
  refine va_get (D := D) (ci := 2) (v := .ref (ad 5)) (C := RX3) (T := TX3) (N := 13) hx hb hts iwX3_isLiveAndLacks_X3 hown hK hP 0 rfl rfl 10 (by decide) (hts (.fieldLink RX3 29 "RepairSender" "dropped" "[Z") (List.mem_of_getElem? (i := 1) rfl)) (fun _ h9 => h9) rfl dX3_isLiveAndLacks_1 ?_
  refine lv_iload_n hx hb dX3_isLiveAndLacks_4 rfl (lv_at hl 1 rfl) ?_
  refine q_zald (f := gon) (j := r) hx hb hK hP 5 1 rfl rfl (by omega) (by decide) dX3_isLiveAndLacks_5 ?_
  refine q_if_ne (u := ((gon r : Nat) : Int)) (tgt := 21) hx hb dX3_isLiveAndLacks_6 (by decide) (nI_toInt (by omega)) (fun c_6 => ?_) (fun c_6 => ?_)
  · skip
    refine lv_iconst (v := nI (0)) hx hb dX3_isLiveAndLacks_21 (by decide) ?_
    exact W.zret (v := nI (0)) hx hb hr (rfl) (fun t ht hW => ⟨_, rfl, (by first | exact Or.inl ⟨rfl, by omega⟩ | exact Or.inr ⟨rfl, by omega⟩), ht⟩) (fun q h => by cases h) dX3_isLiveAndLacks_22
  · skip
    refine lv_aload_n hx hb dX3_isLiveAndLacks_9 rfl (lv_at hl 0 rfl) ?_
    refine lv_iload_n hx hb dX3_isLiveAndLacks_10 rfl (lv_at hl 1 rfl) ?_
    have hPc : va_P D vwCl (wA cI cZ ad (pat) (sent) (rep) (kept) (rc) (los) (wai) (set) (bad) (gon) (bk) (bp) (bv)) s.heap := hP
    refine q_csi (va_runV (As := [.int (nI (r))]) (rest := []) ⟨hx, hb, hml, hown, hts⟩ (c_X3_needOf l D cI cZ cQ cL (ad) (pat) (sent) (rep) (kept) (rc) (los) (wai) (set) (bad) (gon) (bk) (bp) (bv) (r) s.heap.size (hr6) (hset) (hbk)) (cwV 1 hts gX3_isLiveAndLacks_X3_needOf rfl rfl rfl ⟨rfl, hd_X3_needOf⟩ ⟨Nat.le_of_ble_eq_true rfl, Nat.le_of_ble_eq_true rfl⟩) (PW_v (q := (RX3, TX3, 13)) (ci := 2) (q0 := 0) hPc hK hD hN rfl rfl) rfl rfl hl.1 rfl (lv_room (Nat.le_of_ble_eq_true rfl)) dX3_isLiveAndLacks_11 ⟨Nat.le_of_ble_eq_true rfl, Nat.le_of_ble_eq_true rfl⟩) (fun r_11 hr_11 => ?_)
    obtain rfl : r_11 = nI (bk - pc (set r)) := hr_11
    refine q_if_le (u := ((bk - pc (set r) : Nat) : Int)) (tgt := 21) hx hb dX3_isLiveAndLacks_14 (by decide) (nI_toInt (by omega)) (fun c_14 => ?_) (fun c_14 => ?_)
    · skip
      refine lv_iconst (v := nI (0)) hx hb dX3_isLiveAndLacks_21 (by decide) ?_
      exact W.zret (v := nI (0)) hx hb hr (rfl) (fun t ht hW => ⟨_, rfl, (by first | exact Or.inl ⟨rfl, by omega⟩ | exact Or.inr ⟨rfl, by omega⟩), ht⟩) (fun q h => by cases h) dX3_isLiveAndLacks_22
    · skip
      refine lv_iconst (v := nI (1)) hx hb dX3_isLiveAndLacks_17 (by decide) ?_
      refine lv_goto (tgt := 22) hx hb dX3_isLiveAndLacks_18 (by decide) ?_
      exact W.zret (v := nI (1)) hx hb hr (rfl) (fun t ht hW => ⟨_, rfl, (by first | exact Or.inl ⟨rfl, by omega⟩ | exact Or.inr ⟨rfl, by omega⟩), ht⟩) (fun q h => by cases h) dX3_isLiveAndLacks_22

theorem iwX3_completeCount_X3 : ∀ w ∈ wsX30, w ∈ wsX3_completeCount := by decide +kernel
set_option maxHeartbeats 4000000 in
set_option maxRecDepth 100000 in
theorem c_X3_completeCount (l : Launch) (D : va_G) (cI cZ cQ cL : ClassId) (ad : Nat → Nat) (pat : Nat) (sent : Nat) (rep : Nat) (kept : Nat) (rc : Nat) (los : Nat → Nat) (wai : Nat → Nat) (set : Nat → Nat) (bad : Nat → Nat) (gon : Nat → Nat) (bk : Nat) (bp : Nat → B8) (bv : Nat → B8) (sz : Nat) (hrc : rc ≤ 6) (hset : ∀ r, r < 6 → set r < 65536) (hbk : bk ≤ 8) (hgon : ∀ r, r < 6 → gon r ≤ 1) : Met l yX3_completeCount wsX3_completeCount ({ frames := 2, cells := 0, slots := 0, locals := 41 } : Room) (PW D (TY cI cZ cQ cL) (wA cI cZ ad (pat) (sent) (rep) (kept) (rc) (los) (wai) (set) (bad) (gon) (bk) (bp) (bv)) sz [.ref (ad 0)]) (vp_Si (fun z9 => z9 = nI (ccn bk set gon rc))) 0 0 (fun _ => False) := by
  refine Met.ofW (cc := cX3_completeCount) (maxL := 3) (ret := (some .int)) (by decide) rfl ?_
  intro p e s m args below meth c s₁ B hml hv
  obtain ⟨rfl, hsz, hP, hK, hD0, hN⟩ := hv
  have hx := B.exec
  have hb := B.bytes
  have hr := B.returns
  have hts := atoms_spec (ws := wsX3_completeCount) B.pre
  have hown : s.vm.findClass RX3 = some m.cls := findClass_of_methodNamed B.named
  have hlocks := B.notSynchronized
  subst hsz
  have hD := hD0
  have hl := lv_entry ([.ref (ad 0)]) (n := 3) (Nat.le_of_ble_eq_true rfl)
  rw [lg_entry_eq]
  generalize (lg_sl ([.ref (ad 0)]) ++ List.replicate (3 - (lg_sl ([.ref (ad 0)])).length) Slot.unset).toArray = ls at hl ⊢
  have hl : lv_has ls 3 [(0, .ref (ad 0))] := hl
  refine lv_iconst (v := nI (0)) hx hb dX3_completeCount_0 (by decide) ?_
  refine lv_istore_n (lv' := [(1, .int (nI (0))), (0, .ref (ad 0))]) hx hb dX3_completeCount_1 rfl hl (by decide) rfl (fun ls hl => ?_)
  refine lv_iconst (v := nI (0)) hx hb dX3_completeCount_2 (by decide) ?_
  refine lv_istore_n (lv' := [(2, .int (nI (0))), (1, .int (nI (0))), (0, .ref (ad 0))]) hx hb dX3_completeCount_3 rfl hl (by decide) rfl (fun ls hl => ?_)
  have L4_1 : ∀ (n4_1 : Nat) (i : Nat), rc - i < n4_1 → (i ≤ rc) → ∀ (ls : Array Slot), lv_has ls 3 [(0, .ref (ad 0)), (1, .int (nI (ccn bk set gon i))), (2, .int (nI (i)))] → W p l e (headSpec wsX3_completeCount ({ frames := 2, cells := 0, slots := 0, locals := 41 } : Room)).room s m ([.ref (ad 0)] : List Value).toArray below meth c s.heap [] 0 0 (MQ below (vp_Si (fun z9 => z9 = nI (ccn bk set gon rc))) ([.ref (ad 0)] : List Value).toArray s 0 0 (fun _ => False)) (F0 m 4 ls []) := by
    intro n4_1
    induction n4_1 with
    | zero =>
      intro i hn4_1
      exact absurd hn4_1 (Nat.not_lt_zero _)
    | succ n4_1 ih4_1 =>
      intro i hn4_1 hi ls hl
      refine lv_iload_n hx hb dX3_completeCount_4 rfl (lv_at hl 2 rfl) ?_
      refine lv_aload_n hx hb dX3_completeCount_5 rfl (lv_at hl 0 rfl) ?_
      refine va_get (D := D) (ci := 2) (v := .int (nI (rc))) (C := RX3) (T := TX3) (N := 13) hx hb hts iwX3_completeCount_X3 hown hK hP 0 rfl rfl 5 (by decide) (hts (.fieldLink RX3 84 "RepairSender" "receiverCount" "I") (List.mem_of_getElem? (i := 1) rfl)) (fun _ h9 => h9) rfl dX3_completeCount_6 ?_
      refine q_icmp_ge (u := ((i : Nat) : Int)) (v := ((rc : Nat) : Int)) (tgt := 38) hx hb dX3_completeCount_9 (by decide) (nI_toInt (by omega)) (nI_toInt (by omega)) (fun c_9 => ?_) (fun c_9 => ?_)
      · obtain rfl : rc = i := by omega
        refine lv_iload_n hx hb dX3_completeCount_38 rfl (lv_at hl 1 rfl) ?_
        exact W.iret (v := nI (ccn bk set gon rc)) hx hb hr (fun t ht hW => ⟨_, rfl, (by rfl), ht⟩) (fun q h => by cases h) dX3_completeCount_39
      · skip
        have hg6 := hgon i (by omega)
        refine lv_aload_n hx hb dX3_completeCount_12 rfl (lv_at hl 0 rfl) ?_
        refine va_get (D := D) (ci := 2) (v := .ref (ad 5)) (C := RX3) (T := TX3) (N := 13) hx hb hts iwX3_completeCount_X3 hown hK hP 0 rfl rfl 10 (by decide) (hts (.fieldLink RX3 29 "RepairSender" "dropped" "[Z") (List.mem_of_getElem? (i := 2) rfl)) (fun _ h9 => h9) rfl dX3_completeCount_13 ?_
        refine lv_iload_n hx hb dX3_completeCount_16 rfl (lv_at hl 2 rfl) ?_
        refine q_zald (f := gon) (j := i) hx hb hK hP 5 1 rfl rfl (by omega) (by decide) dX3_completeCount_17 ?_
        refine q_if_ne (u := ((gon i : Nat) : Int)) (tgt := 32) hx hb dX3_completeCount_18 (by decide) (nI_toInt (by omega)) (fun c_18 => ?_) (fun c_18 => ?_)
        · have e1 : ccn bk set gon (i + 1) = ccn bk set gon i := if_neg (by omega)
          refine lv_iinc (v := nI (i + 1)) (lv' := [(2, .int (nI (i + 1))), (0, .ref (ad 0)), (1, .int (nI (ccn bk set gon i)))]) hx hb dX3_completeCount_32 hl (k := 2) rfl (show nI (i) + Int32.ofInt 1 = nI (i + 1) from nI_add (i) 1) (by decide) rfl (fun ls hl => ?_)
          refine lv_goto (tgt := 4) hx hb dX3_completeCount_35 (by decide) ?_
          exact ih4_1 (i + 1) (by omega) (by omega) ls (lv_sub hl [1, 2, 0] (by rw [e1]; rfl))
        · skip
          refine lv_aload_n hx hb dX3_completeCount_21 rfl (lv_at hl 0 rfl) ?_
          refine lv_iload_n hx hb dX3_completeCount_22 rfl (lv_at hl 2 rfl) ?_
          have hPc : va_P D vwCl (wA cI cZ ad (pat) (sent) (rep) (kept) (rc) (los) (wai) (set) (bad) (gon) (bk) (bp) (bv)) s.heap := hP
          refine q_csi (va_runV (As := [.int (nI (i))]) (rest := []) ⟨hx, hb, hml, hown, hts⟩ (c_X3_needOf l D cI cZ cQ cL (ad) (pat) (sent) (rep) (kept) (rc) (los) (wai) (set) (bad) (gon) (bk) (bp) (bv) (i) s.heap.size (by omega) (hset) (hbk)) (cwV 1 hts gX3_completeCount_X3_needOf rfl rfl rfl ⟨rfl, hd_X3_needOf⟩ ⟨Nat.le_of_ble_eq_true rfl, Nat.le_of_ble_eq_true rfl⟩) (PW_v (q := (RX3, TX3, 13)) (ci := 2) (q0 := 0) hPc hK hD hN rfl rfl) rfl rfl hl.1 rfl (lv_room (Nat.le_of_ble_eq_true rfl)) dX3_completeCount_23 ⟨Nat.le_of_ble_eq_true rfl, Nat.le_of_ble_eq_true rfl⟩) (fun r_23 hr_23 => ?_)
          obtain rfl : r_23 = nI (bk - pc (set i)) := hr_23
          refine q_if_ne (u := ((bk - pc (set i) : Nat) : Int)) (tgt := 32) hx hb dX3_completeCount_26 (by decide) (nI_toInt (by omega)) (fun c_26 => ?_) (fun c_26 => ?_)
          · have e1 : ccn bk set gon (i + 1) = ccn bk set gon i := if_neg (by omega)
            refine lv_iinc (v := nI (i + 1)) (lv' := [(2, .int (nI (i + 1))), (0, .ref (ad 0)), (1, .int (nI (ccn bk set gon i)))]) hx hb dX3_completeCount_32 hl (k := 2) rfl (show nI (i) + Int32.ofInt 1 = nI (i + 1) from nI_add (i) 1) (by decide) rfl (fun ls hl => ?_)
            refine lv_goto (tgt := 4) hx hb dX3_completeCount_35 (by decide) ?_
            exact ih4_1 (i + 1) (by omega) (by omega) ls (lv_sub hl [1, 2, 0] (by rw [e1]; rfl))
          · have e1 : ccn bk set gon (i + 1) = ccn bk set gon i + 1 := if_pos (by omega)
            refine lv_iinc (v := nI (ccn bk set gon i + 1)) (lv' := [(1, .int (nI (ccn bk set gon i + 1))), (0, .ref (ad 0)), (2, .int (nI (i)))]) hx hb dX3_completeCount_29 hl (k := 1) rfl (show nI (ccn bk set gon i) + Int32.ofInt 1 = nI (ccn bk set gon i + 1) from nI_add (ccn bk set gon i) 1) (by decide) rfl (fun ls hl => ?_)
            refine lv_iinc (v := nI (i + 1)) (lv' := [(2, .int (nI (i + 1))), (1, .int (nI (ccn bk set gon i + 1))), (0, .ref (ad 0))]) hx hb dX3_completeCount_32 hl (k := 2) rfl (show nI (i) + Int32.ofInt 1 = nI (i + 1) from nI_add (i) 1) (by decide) rfl (fun ls hl => ?_)
            refine lv_goto (tgt := 4) hx hb dX3_completeCount_35 (by decide) ?_
            exact ih4_1 (i + 1) (by omega) (by omega) ls (lv_sub hl [2, 1, 0] (by rw [e1]; rfl))
  exact L4_1 _ (0) (Nat.lt_succ_self _) (by omega) ls (lv_sub hl [2, 1, 0] rfl)
