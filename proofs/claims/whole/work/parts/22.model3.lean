set_option maxHeartbeats 4000000 in
set_option maxRecDepth 100000 in
theorem c_X4_product (l : Launch) (a : B8) (b : B8) : Met l yX4_product wsX4_product ({ frames := 0, cells := 0, slots := 0, locals := 0 } : Room) (P0 [.int (bI (a)), .int (bI (b))]) (vp_Si (fun z9 => z9 = bI (fm a b))) 0 0 (fun _ => False) := by
  refine Met.ofW (cc := cX4_product) (maxL := 5) (ret := (some .int)) (by decide) rfl ?_
  intro p e s m args below meth c s₁ B hml hv
  obtain ⟨rfl, -⟩ := hv
  have hx := B.exec
  have hb := B.bytes
  have hr := B.returns
  have hts := atoms_spec (ws := wsX4_product) B.pre
  have hown : s.vm.findClass RX4 = some m.cls := findClass_of_methodNamed B.named
  have hlocks := B.notSynchronized
  have hl := lv_entry ([.int (bI (a)), .int (bI (b))]) (n := 5) (Nat.le_of_ble_eq_true rfl)
  rw [lg_entry_eq]
  generalize (lg_sl ([.int (bI (a)), .int (bI (b))]) ++ List.replicate (5 - (lg_sl ([.int (bI (a)), .int (bI (b))])).length) Slot.unset).toArray = ls at hl ⊢
  have hl : lv_has ls 5 [(0, .int (bI (a))), (1, .int (bI (b)))] := hl
  refine lv_iconst (v := nI (0)) hx hb dX4_product_0 (by decide) ?_
  refine lv_istore_n (lv' := [(2, .int (nI (0))), (0, .int (bI (a))), (1, .int (bI (b)))]) hx hb dX4_product_1 rfl hl (by decide) rfl (fun ls hl => ?_)
  refine lv_iload_n hx hb dX4_product_2 rfl (lv_at hl 1 rfl) ?_
  refine lv_istore_n (lv' := [(3, .int (bI (a))), (2, .int (nI (0))), (0, .int (bI (a))), (1, .int (bI (b)))]) hx hb dX4_product_3 rfl hl (by decide) rfl (fun ls hl => ?_)
  refine lv_iconst (v := nI (0)) hx hb dX4_product_4 (by decide) ?_
  refine lv_istore (lv' := [(4, .int (nI (0))), (3, .int (bI (a))), (2, .int (nI (0))), (0, .int (bI (a))), (1, .int (bI (b)))]) hx hb dX4_product_5 hl (by decide) rfl (fun ls hl => ?_)
  have L7_1 : ∀ (n7_1 : Nat) (i : Nat), 8 - i < n7_1 → (i ≤ 8) → ∀ (ls : Array Slot), lv_has ls 5 [(0, .int (bI (a))), (1, .int (bI (b))), (2, .int (nI (gsu a.toNat b.toNat i))), (3, .int (nI (gsh a.toNat i))), (4, .int (nI (i)))] → W p l e (headSpec wsX4_product ({ frames := 0, cells := 0, slots := 0, locals := 0 } : Room)).room s m ([.int (bI (a)), .int (bI (b))] : List Value).toArray below meth c s.heap [] 0 0 (MQ below (vp_Si (fun z9 => z9 = bI (fm a b))) ([.int (bI (a)), .int (bI (b))] : List Value).toArray s 0 0 (fun _ => False)) (F0 m 7 ls []) := by
    intro n7_1
    induction n7_1 with
    | zero =>
      intro i hn7_1
      exact absurd hn7_1 (Nat.not_lt_zero _)
    | succ n7_1 ih7_1 =>
      intro i hn7_1 hi ls hl
      refine lv_iload hx hb dX4_product_7 (lv_at hl 4 rfl) ?_
      refine lv_bipush (v := nI (8)) hx hb dX4_product_9 (by decide) ?_
      refine q_icmp_ge (u := ((i : Nat) : Int)) (v := ((8 : Nat) : Int)) (tgt := 59) hx hb dX4_product_11 (by decide) (nI_toInt (by omega)) (nI_toInt (by omega)) (fun c_11 => ?_) (fun c_11 => ?_)
      · obtain rfl : 8 = i := by omega
        refine lv_iload_n hx hb dX4_product_59 rfl (lv_at hl 2 rfl) ?_
        exact W.iret (v := nI (gsu a.toNat b.toNat 8)) hx hb hr (fun t ht hW => ⟨_, rfl, (by show nI _ = bI _; unfold bI; rw [fm_nat]), ht⟩) (fun q h => by cases h) dX4_product_60
      · skip
        have hsh := gsh_lt (bI_lt a) i
        refine lv_iload_n hx hb dX4_product_14 rfl (lv_at hl 2 rfl) ?_
        refine lv_iload_n hx hb dX4_product_15 rfl (lv_at hl 1 rfl) ?_
        refine lv_iload hx hb dX4_product_16 (lv_at hl 4 rfl) ?_
        refine lv_ishr hx hb dX4_product_18 ?_
        refine q_top (show (bI (b) >>> (nI (i) &&& 31)) = nI (((b).toNat) / 2 ^ (i)) from nI_shr (by have := bI_lt b; omega) (by omega)) ?_
        refine lv_iconst (v := nI (1)) hx hb dX4_product_19 (by decide) ?_
        refine lv_iand hx hb dX4_product_20 ?_
        refine q_top (show (nI (((b).toNat) / 2 ^ (i)) &&& nI (1)) = nI ((((b).toNat) / 2 ^ (i)) % 2) from nI_and1 _) ?_
        refine lv_iconst (v := nI (1)) hx hb dX4_product_21 (by decide) ?_
        refine q_icmp_ne (u := (((((b).toNat) / 2 ^ (i)) % 2 : Nat) : Int)) (v := ((1 : Nat) : Int)) (tgt := 29) hx hb dX4_product_22 (by decide) (nI_toInt (by omega)) (nI_toInt (by omega)) (fun c_22 => ?_) (fun c_22 => ?_)
        · have e2 : gsu a.toNat b.toNat (i + 1) = (gsu a.toNat b.toNat i) ^^^ 0 := (if_neg (by omega)).trans (Nat.xor_zero _).symm
          refine lv_iconst (v := nI (0)) hx hb dX4_product_29 (by decide) ?_
          refine lv_ixor hx hb dX4_product_30 ?_
          refine q_top (show (nI (gsu a.toNat b.toNat i) ^^^ nI (0)) = nI ((gsu a.toNat b.toNat i) ^^^ (0)) from nI_xor _ _) ?_
          refine lv_istore_n (lv' := [(2, .int (nI ((gsu a.toNat b.toNat i) ^^^ (0)))), (0, .int (bI (a))), (1, .int (bI (b))), (3, .int (nI (gsh a.toNat i))), (4, .int (nI (i)))]) hx hb dX4_product_31 rfl hl (by decide) rfl (fun ls hl => ?_)
          refine lv_iload_n hx hb dX4_product_32 rfl (lv_at hl 3 rfl) ?_
          refine lv_iconst (v := nI (1)) hx hb dX4_product_33 (by decide) ?_
          refine lv_ishl hx hb dX4_product_34 ?_
          refine q_top (show (nI (gsh a.toNat i) <<< (nI (1) &&& 31)) = nI ((gsh a.toNat i) * 2) from nI_shl1 (by omega)) ?_
          refine lv_istore_n (lv' := [(3, .int (nI ((gsh a.toNat i) * 2))), (2, .int (nI ((gsu a.toNat b.toNat i) ^^^ (0)))), (0, .int (bI (a))), (1, .int (bI (b))), (4, .int (nI (i)))]) hx hb dX4_product_35 rfl hl (by decide) rfl (fun ls hl => ?_)
          refine lv_iload_n hx hb dX4_product_36 rfl (lv_at hl 0 rfl) ?_
          refine lv_iload_n hx hb dX4_product_37 rfl (lv_at hl 0 rfl) ?_
          refine lv_sipush (v := nI (255)) hx hb dX4_product_38 (by decide) ?_
          refine q_icmp_le (u := (((gsh a.toNat i) * 2 : Nat) : Int)) (v := ((255 : Nat) : Int)) (tgt := 50) hx hb dX4_product_41 (by decide) (nI_toInt (by omega)) (nI_toInt (by omega)) (fun c_41 => ?_) (fun c_41 => ?_)
          · have e3 : gsh a.toNat (i + 1) = ((gsh a.toNat i) * 2) ^^^ 0 := (if_neg (by omega)).trans (Nat.xor_zero _).symm
            refine lv_iconst (v := nI (0)) hx hb dX4_product_50 (by decide) ?_
            refine lv_ixor hx hb dX4_product_51 ?_
            refine q_top (show (nI ((gsh a.toNat i) * 2) ^^^ nI (0)) = nI (((gsh a.toNat i) * 2) ^^^ (0)) from nI_xor _ _) ?_
            refine lv_istore_n (lv' := [(3, .int (nI (((gsh a.toNat i) * 2) ^^^ (0)))), (2, .int (nI ((gsu a.toNat b.toNat i) ^^^ (0)))), (0, .int (bI (a))), (1, .int (bI (b))), (4, .int (nI (i)))]) hx hb dX4_product_52 rfl hl (by decide) rfl (fun ls hl => ?_)
            refine lv_iinc (v := nI (i + 1)) (lv' := [(4, .int (nI (i + 1))), (3, .int (nI (((gsh a.toNat i) * 2) ^^^ (0)))), (2, .int (nI ((gsu a.toNat b.toNat i) ^^^ (0)))), (0, .int (bI (a))), (1, .int (bI (b)))]) hx hb dX4_product_53 hl (k := 4) rfl (show nI (i) + Int32.ofInt 1 = nI (i + 1) from nI_add (i) 1) (by decide) rfl (fun ls hl => ?_)
            refine lv_goto (tgt := 7) hx hb dX4_product_56 (by decide) ?_
            exact ih7_1 (i + 1) (by omega) (by omega) ls (lv_sub hl [3, 4, 2, 1, 0] (by rw [e2, e3]; rfl))
          · have e3 : gsh a.toNat (i + 1) = ((gsh a.toNat i) * 2) ^^^ 285 := if_pos (by omega)
            refine lv_sipush (v := nI (285)) hx hb dX4_product_44 (by decide) ?_
            refine lv_goto (tgt := 51) hx hb dX4_product_47 (by decide) ?_
            refine lv_ixor hx hb dX4_product_51 ?_
            refine q_top (show (nI ((gsh a.toNat i) * 2) ^^^ nI (285)) = nI (((gsh a.toNat i) * 2) ^^^ (285)) from nI_xor _ _) ?_
            refine lv_istore_n (lv' := [(3, .int (nI (((gsh a.toNat i) * 2) ^^^ (285)))), (2, .int (nI ((gsu a.toNat b.toNat i) ^^^ (0)))), (0, .int (bI (a))), (1, .int (bI (b))), (4, .int (nI (i)))]) hx hb dX4_product_52 rfl hl (by decide) rfl (fun ls hl => ?_)
            refine lv_iinc (v := nI (i + 1)) (lv' := [(4, .int (nI (i + 1))), (3, .int (nI (((gsh a.toNat i) * 2) ^^^ (285)))), (2, .int (nI ((gsu a.toNat b.toNat i) ^^^ (0)))), (0, .int (bI (a))), (1, .int (bI (b)))]) hx hb dX4_product_53 hl (k := 4) rfl (show nI (i) + Int32.ofInt 1 = nI (i + 1) from nI_add (i) 1) (by decide) rfl (fun ls hl => ?_)
            refine lv_goto (tgt := 7) hx hb dX4_product_56 (by decide) ?_
            exact ih7_1 (i + 1) (by omega) (by omega) ls (lv_sub hl [3, 4, 2, 1, 0] (by rw [e2, e3]; rfl))
        · have e2 : gsu a.toNat b.toNat (i + 1) = (gsu a.toNat b.toNat i) ^^^ (gsh a.toNat i) := if_pos (by omega)
          refine lv_iload_n hx hb dX4_product_25 rfl (lv_at hl 3 rfl) ?_
          refine lv_goto (tgt := 30) hx hb dX4_product_26 (by decide) ?_
          refine lv_ixor hx hb dX4_product_30 ?_
          refine q_top (show (nI (gsu a.toNat b.toNat i) ^^^ nI (gsh a.toNat i)) = nI ((gsu a.toNat b.toNat i) ^^^ (gsh a.toNat i)) from nI_xor _ _) ?_
          refine lv_istore_n (lv' := [(2, .int (nI ((gsu a.toNat b.toNat i) ^^^ (gsh a.toNat i)))), (0, .int (bI (a))), (1, .int (bI (b))), (3, .int (nI (gsh a.toNat i))), (4, .int (nI (i)))]) hx hb dX4_product_31 rfl hl (by decide) rfl (fun ls hl => ?_)
          refine lv_iload_n hx hb dX4_product_32 rfl (lv_at hl 3 rfl) ?_
          refine lv_iconst (v := nI (1)) hx hb dX4_product_33 (by decide) ?_
          refine lv_ishl hx hb dX4_product_34 ?_
          refine q_top (show (nI (gsh a.toNat i) <<< (nI (1) &&& 31)) = nI ((gsh a.toNat i) * 2) from nI_shl1 (by omega)) ?_
          refine lv_istore_n (lv' := [(3, .int (nI ((gsh a.toNat i) * 2))), (2, .int (nI ((gsu a.toNat b.toNat i) ^^^ (gsh a.toNat i)))), (0, .int (bI (a))), (1, .int (bI (b))), (4, .int (nI (i)))]) hx hb dX4_product_35 rfl hl (by decide) rfl (fun ls hl => ?_)
          refine lv_iload_n hx hb dX4_product_36 rfl (lv_at hl 0 rfl) ?_
          refine lv_iload_n hx hb dX4_product_37 rfl (lv_at hl 0 rfl) ?_
          refine lv_sipush (v := nI (255)) hx hb dX4_product_38 (by decide) ?_
          refine q_icmp_le (u := (((gsh a.toNat i) * 2 : Nat) : Int)) (v := ((255 : Nat) : Int)) (tgt := 50) hx hb dX4_product_41 (by decide) (nI_toInt (by omega)) (nI_toInt (by omega)) (fun c_41 => ?_) (fun c_41 => ?_)
          · have e3 : gsh a.toNat (i + 1) = ((gsh a.toNat i) * 2) ^^^ 0 := (if_neg (by omega)).trans (Nat.xor_zero _).symm
            refine lv_iconst (v := nI (0)) hx hb dX4_product_50 (by decide) ?_
            refine lv_ixor hx hb dX4_product_51 ?_
            refine q_top (show (nI ((gsh a.toNat i) * 2) ^^^ nI (0)) = nI (((gsh a.toNat i) * 2) ^^^ (0)) from nI_xor _ _) ?_
            refine lv_istore_n (lv' := [(3, .int (nI (((gsh a.toNat i) * 2) ^^^ (0)))), (2, .int (nI ((gsu a.toNat b.toNat i) ^^^ (gsh a.toNat i)))), (0, .int (bI (a))), (1, .int (bI (b))), (4, .int (nI (i)))]) hx hb dX4_product_52 rfl hl (by decide) rfl (fun ls hl => ?_)
            refine lv_iinc (v := nI (i + 1)) (lv' := [(4, .int (nI (i + 1))), (3, .int (nI (((gsh a.toNat i) * 2) ^^^ (0)))), (2, .int (nI ((gsu a.toNat b.toNat i) ^^^ (gsh a.toNat i)))), (0, .int (bI (a))), (1, .int (bI (b)))]) hx hb dX4_product_53 hl (k := 4) rfl (show nI (i) + Int32.ofInt 1 = nI (i + 1) from nI_add (i) 1) (by decide) rfl (fun ls hl => ?_)
            refine lv_goto (tgt := 7) hx hb dX4_product_56 (by decide) ?_
            exact ih7_1 (i + 1) (by omega) (by omega) ls (lv_sub hl [3, 4, 2, 1, 0] (by rw [e2, e3]; rfl))
          · have e3 : gsh a.toNat (i + 1) = ((gsh a.toNat i) * 2) ^^^ 285 := if_pos (by omega)
            refine lv_sipush (v := nI (285)) hx hb dX4_product_44 (by decide) ?_
            refine lv_goto (tgt := 51) hx hb dX4_product_47 (by decide) ?_
            refine lv_ixor hx hb dX4_product_51 ?_
            refine q_top (show (nI ((gsh a.toNat i) * 2) ^^^ nI (285)) = nI (((gsh a.toNat i) * 2) ^^^ (285)) from nI_xor _ _) ?_
            refine lv_istore_n (lv' := [(3, .int (nI (((gsh a.toNat i) * 2) ^^^ (285)))), (2, .int (nI ((gsu a.toNat b.toNat i) ^^^ (gsh a.toNat i)))), (0, .int (bI (a))), (1, .int (bI (b))), (4, .int (nI (i)))]) hx hb dX4_product_52 rfl hl (by decide) rfl (fun ls hl => ?_)
            refine lv_iinc (v := nI (i + 1)) (lv' := [(4, .int (nI (i + 1))), (3, .int (nI (((gsh a.toNat i) * 2) ^^^ (285)))), (2, .int (nI ((gsu a.toNat b.toNat i) ^^^ (gsh a.toNat i)))), (0, .int (bI (a))), (1, .int (bI (b)))]) hx hb dX4_product_53 hl (k := 4) rfl (show nI (i) + Int32.ofInt 1 = nI (i + 1) from nI_add (i) 1) (by decide) rfl (fun ls hl => ?_)
            refine lv_goto (tgt := 7) hx hb dX4_product_56 (by decide) ?_
            exact ih7_1 (i + 1) (by omega) (by omega) ls (lv_sub hl [3, 4, 2, 1, 0] (by rw [e2, e3]; rfl))
  exact L7_1 _ (0) (Nat.lt_succ_self _) (by omega) ls (lv_sub hl [3, 4, 2, 1, 0] rfl)

set_option maxHeartbeats 4000000 in
set_option maxRecDepth 100000 in
theorem c_X4_inverse (l : Launch) (a : B8) (ha : a ≠ 0) : Met l yX4_inverse wsX4_inverse ({ frames := 1, cells := 0, slots := 0, locals := 24 } : Room) (P0 [.int (bI (a))]) (vp_Si (fun z9 => z9 = bI (finv a))) 0 0 (fun _ => False) := by
  refine Met.ofW (cc := cX4_inverse) (maxL := 2) (ret := (some .int)) (by decide) rfl ?_
  intro p e s m args below meth c s₁ B hml hv
  obtain ⟨rfl, -⟩ := hv
  have hx := B.exec
  have hb := B.bytes
  have hr := B.returns
  have hts := atoms_spec (ws := wsX4_inverse) B.pre
  have hown : s.vm.findClass RX4 = some m.cls := findClass_of_methodNamed B.named
  have hlocks := B.notSynchronized
  have hl := lv_entry ([.int (bI (a))]) (n := 2) (Nat.le_of_ble_eq_true rfl)
  rw [lg_entry_eq]
  generalize (lg_sl ([.int (bI (a))]) ++ List.replicate (2 - (lg_sl ([.int (bI (a))])).length) Slot.unset).toArray = ls at hl ⊢
  have hl : lv_has ls 2 [(0, .int (bI (a)))] := hl
  have hfl := bI_lt (finv a)
  have hf1 : 1 ≤ (finv a).toNat := by
    rcases Nat.eq_zero_or_pos (finv a).toNat with h | h
    · exfalso
      have h2 : finv a = 0 := BitVec.eq_of_toNat_eq h
      have h3 := fm_inv ha
      rw [h2, fm_0] at h3
      exact absurd h3 (by decide)
    · exact h
  refine lv_iconst (v := nI (1)) hx hb dX4_inverse_0 (by decide) ?_
  refine lv_istore_n (lv' := [(1, .int (nI (1))), (0, .int (bI (a)))]) hx hb dX4_inverse_1 rfl hl (by decide) rfl (fun ls hl => ?_)
  have L2_1 : ∀ (n2_1 : Nat) (j : Nat), 256 - j < n2_1 → (j ≤ (finv a).toNat) → ∀ (ls : Array Slot), lv_has ls 2 [(0, .int (bI (a))), (1, .int (nI (j)))] → W p l e (headSpec wsX4_inverse ({ frames := 1, cells := 0, slots := 0, locals := 24 } : Room)).room s m ([.int (bI (a))] : List Value).toArray below meth c s.heap [] 0 0 (MQ below (vp_Si (fun z9 => z9 = bI (finv a))) ([.int (bI (a))] : List Value).toArray s 0 0 (fun _ => False)) (F0 m 2 ls []) := by
    intro n2_1
    induction n2_1 with
    | zero =>
      intro j hn2_1
      exact absurd hn2_1 (Nat.not_lt_zero _)
    | succ n2_1 ih2_1 =>
      intro j hn2_1 hj ls hl
      refine lv_iload_n hx hb dX4_inverse_2 rfl (lv_at hl 0 rfl) ?_
      refine lv_iload_n hx hb dX4_inverse_3 rfl (lv_at hl 1 rfl) ?_
      refine q_top (show nI (j) = bI (BitVec.ofNat 8 j) from bI_of (by omega)) ?_
      refine q_csi (va_runS (As := [.int (bI (a)), .int (bI (BitVec.ofNat 8 j))]) (rest := []) ⟨hx, hb, hml, hown, hts⟩ (c_X4_product l (a) (BitVec.ofNat 8 j) ) (va_cwS 2 hts gX4_inverse_X4_product rfl rfl rfl hd_X4_product ⟨Nat.le_of_ble_eq_true rfl, Nat.le_of_ble_eq_true rfl⟩) P0_s rfl rfl hl.1 rfl (lv_room (Nat.le_of_ble_eq_true rfl)) dX4_inverse_4 ⟨Nat.le_of_ble_eq_true rfl, Nat.le_of_ble_eq_true rfl⟩) (fun r_4 hr_4 => ?_)
      obtain rfl : r_4 = bI (fm a (BitVec.ofNat 8 j)) := hr_4
      refine lv_iconst (v := nI (1)) hx hb dX4_inverse_7 (by decide) ?_
      refine q_icmp_eq (u := (((fm a (BitVec.ofNat 8 j)).toNat : Nat) : Int)) (v := ((1 : Nat) : Int)) (tgt := 17) hx hb dX4_inverse_8 (by decide) (bI_toInt _) (nI_toInt (by omega)) (fun c_8 => ?_) (fun c_8 => ?_)
      · have he9 := inv_end ha (by omega) c_8
        refine lv_iload_n hx hb dX4_inverse_17 rfl (lv_at hl 1 rfl) ?_
        exact W.iret (v := nI (j)) hx hb hr (fun t ht hW => ⟨_, rfl, (by exact he9), ht⟩) (fun q h => by cases h) dX4_inverse_18
      · have hj2 := inv_go ha hj c_8
        refine lv_iinc (v := nI (j + 1)) (lv' := [(1, .int (nI (j + 1))), (0, .int (bI (a)))]) hx hb dX4_inverse_11 hl (k := 1) rfl (show nI (j) + Int32.ofInt 1 = nI (j + 1) from nI_add (j) 1) (by decide) rfl (fun ls hl => ?_)
        refine lv_goto (tgt := 2) hx hb dX4_inverse_14 (by decide) ?_
        exact ih2_1 (j + 1) (by omega) (by omega) ls (lv_sub hl [1, 0] rfl)
  exact L2_1 _ (1) (Nat.lt_succ_self _) (by omega) ls (lv_sub hl [1, 0] rfl)

theorem iwX4_times_X4 : ∀ w ∈ wsX40, w ∈ wsX4_times := by decide +kernel
set_option maxHeartbeats 4000000 in
set_option maxRecDepth 100000 in
theorem c_X4_times (l : Launch) (D : va_G) (cI cZ cQ cL : ClassId) (am : Nat → Nat) (k : Nat) (pat : Nat) (dat : Nat → B8) (sent : Nat) (rc : Nat) (los : Nat → Nat) (wai : Nat → Nat) (set : Nat → Nat) (bad : Nat → Nat) (gon : Nat → Nat) (rep : Nat) (sil : Nat) (thr : Nat) (na : Nat → Nat) (x0 : Int32) (x1 : Int32) (sz : Nat) : Met l yX4_times wsX4_times ({ frames := 1, cells := 0, slots := 0, locals := 24 } : Room) (PW D (TY cI cZ cQ cL) (wM cI cZ am (k) (pat) (dat) (sent) (rc) (los) (wai) (set) (bad) (gon) (rep) (sil) (thr) (na)) sz [.ref (am 0), .int (x0), .int (x1)]) (QI D (va_A (wM cI cZ am (k) (pat) (dat) (sent) (rc) (los) (wai) (set) (bad) (gon) (rep) (sil) (thr) (na)) sz) (fun z9 (u9 : va_W) => (z9 = bI (fm (BitVec.ofNat 8 (tn x0)) (BitVec.ofNat 8 (tn x1))) ∧ ((0 ≤ x0.toInt ∧ x0.toInt ≤ 255) ∧ (0 ≤ x1.toInt ∧ x1.toInt ≤ 255)) ∧ u9 = (wM cI cZ am (k) (pat) (dat) (sent) (rc) (los) (wai) (set) (bad) (gon) (rep) (sil) (0) (na))) ∨ (z9 = nI (0) ∧ (¬ ((0 ≤ x0.toInt ∧ x0.toInt ≤ 255) ∧ (0 ≤ x1.toInt ∧ x1.toInt ≤ 255))) ∧ u9 = (wM cI cZ am (k) (pat) (dat) (sent) (rc) (los) (wai) (set) (bad) (gon) (rep) (sil) (1) (na)))) (fun u9 => u9)) 0 0 (va_A (wM cI cZ am (k) (pat) (dat) (sent) (rc) (los) (wai) (set) (bad) (gon) (rep) (sil) (thr) (na)) sz) := by
  refine Met.ofW (cc := cX4_times) (maxL := 3) (ret := (some .int)) (by decide) rfl ?_
  intro p e s m args below meth c s₁ B hml hv
  obtain ⟨rfl, hsz, hP, hK, hD0, hN⟩ := hv
  have hx := B.exec
  have hb := B.bytes
  have hr := B.returns
  have hts := atoms_spec (ws := wsX4_times) B.pre
  have hown : s.vm.findClass RX4 = some m.cls := findClass_of_methodNamed B.named
  have hlocks := B.notSynchronized
  subst hsz
  have hD := hD0.self (sz := s.heap.size)
  generalize hAe : va_A (wM cI cZ am (k) (pat) (dat) (sent) (rc) (los) (wai) (set) (bad) (gon) (rep) (sil) (thr) (na)) s.heap.size = A at hD ⊢
  have hA : ∀ q : Nat, s.heap.size ≤ q → A q := fun q h => by rw [← hAe]; exact Or.inr h
  have hS : va_S A s.heap s.heap [] := va_S.rf
  have hl := lv_entry ([.ref (am 0), .int (x0), .int (x1)]) (n := 3) (Nat.le_of_ble_eq_true rfl)
  rw [lg_entry_eq]
  generalize (lg_sl ([.ref (am 0), .int (x0), .int (x1)]) ++ List.replicate (3 - (lg_sl ([.ref (am 0), .int (x0), .int (x1)])).length) Slot.unset).toArray = ls at hl ⊢
  have hl : lv_has ls 3 [(0, .ref (am 0)), (1, .int (x0)), (2, .int (x1))] := hl
  refine lv_aload_n hx hb dX4_times_0 rfl (lv_at hl 0 rfl) ?_
  refine lv_iload_n hx hb dX4_times_1 rfl (lv_at hl 1 rfl) ?_
  refine lv_iconst (v := nI (0)) hx hb dX4_times_2 (by decide) ?_
  refine lv_sipush (v := nI (255)) hx hb dX4_times_3 (by decide) ?_
  refine q_csi (va_runS (As := [.int (x0), .int (nI (0)), .int (nI (255))]) (rest := [.ref (am 0)]) ⟨hx, hb, hml, hown, hts⟩ (c_X4_in l (x0) (nI 0) (nI 255) (0) (255) (by decide) (by decide)) (va_cwS 3 hts gX4_times_X4_in rfl rfl rfl hd_X4_in ⟨Nat.le_of_ble_eq_true rfl, Nat.le_of_ble_eq_true rfl⟩) P0_s rfl rfl hl.1 rfl (lv_room (Nat.le_of_ble_eq_true rfl)) dX4_times_6 ⟨Nat.le_of_ble_eq_true rfl, Nat.le_of_ble_eq_true rfl⟩) (fun r_6 hr_6 => ?_)
  rcases hr_6 with ⟨rfl, h_6⟩ | ⟨rfl, h_6⟩
  · have h_6 : 0 ≤ x0.toInt ∧ x0.toInt ≤ 255 := h_6
    refine q_if_eq (u := ((1 : Nat) : Int)) (tgt := 27) hx hb dX4_times_9 (by decide) (nI_toInt (by omega)) (fun c_9 => absurd c_9 (by decide)) (fun _ => ?_)
    refine lv_iload_n hx hb dX4_times_12 rfl (lv_at hl 2 rfl) ?_
    refine lv_iconst (v := nI (0)) hx hb dX4_times_13 (by decide) ?_
    refine lv_sipush (v := nI (255)) hx hb dX4_times_14 (by decide) ?_
    refine q_csi (va_runS (As := [.int (x1), .int (nI (0)), .int (nI (255))]) (rest := [.ref (am 0)]) ⟨hx, hb, hml, hown, hts⟩ (c_X4_in l (x1) (nI 0) (nI 255) (0) (255) (by decide) (by decide)) (va_cwS 3 hts gX4_times_X4_in rfl rfl rfl hd_X4_in ⟨Nat.le_of_ble_eq_true rfl, Nat.le_of_ble_eq_true rfl⟩) P0_s rfl rfl hl.1 rfl (lv_room (Nat.le_of_ble_eq_true rfl)) dX4_times_17 ⟨Nat.le_of_ble_eq_true rfl, Nat.le_of_ble_eq_true rfl⟩) (fun r_17 hr_17 => ?_)
    rcases hr_17 with ⟨rfl, h_17⟩ | ⟨rfl, h_17⟩
    · have h_17 : 0 ≤ x1.toInt ∧ x1.toInt ≤ 255 := h_17
      refine q_if_eq (u := ((1 : Nat) : Int)) (tgt := 27) hx hb dX4_times_20 (by decide) (nI_toInt (by omega)) (fun c_20 => absurd c_20 (by decide)) (fun _ => ?_)
      refine lv_iconst (v := nI (0)) hx hb dX4_times_23 (by decide) ?_
      refine lv_goto (tgt := 28) hx hb dX4_times_24 (by decide) ?_
      refine va_put (D := D) (ci := 3) (v := .int (nI (0))) (ty := .int) (C := RX4) (T := TX4) (N := 14) hx hb hts iwX4_times_X4 tyX4 tyX4_ok nmX4 hown hK hP hD hS 0 rfl rfl 12 (by decide) (hts (.fieldLink RX4 39 "RepairSenderModel" "thrown" "I") (List.mem_of_getElem? (i := 1) rfl)) (fun _ h9 => h9) rfl (by decide +kernel) rfl rfl (Nat.le_of_ble_eq_true rfl) dX4_times_28 (fun H locs hP hD hS => ?_)
      have hP : va_P D vwCl (wM cI cZ am (k) (pat) (dat) (sent) (rc) (los) (wai) (set) (bad) (gon) (rep) (sil) (0) (na)) H := hP
      have hD : va_D A (wM cI cZ am (k) (pat) (dat) (sent) (rc) (los) (wai) (set) (bad) (gon) (rep) (sil) (0) (na)) := hD
      refine lv_aload_n hx hb dX4_times_31 rfl (lv_at hl 0 rfl) ?_
      refine va_get (D := D) (ci := 3) (v := .int (nI (0))) (C := RX4) (T := TX4) (N := 14) hx hb hts iwX4_times_X4 hown hK hP 0 rfl rfl 12 (by decide) (hts (.fieldLink RX4 39 "RepairSenderModel" "thrown" "I") (List.mem_of_getElem? (i := 1) rfl)) (fun _ h9 => h9) rfl dX4_times_32 ?_
      refine q_if_ne (u := ((0 : Nat) : Int)) (tgt := 46) hx hb dX4_times_35 (by decide) (nI_toInt (by omega)) (fun c_35 => absurd c_35 (by decide)) (fun _ => ?_)
      have ht_x0 := tn_i (x := x0) (by omega)
      have ht_x1 := tn_i (x := x1) (by omega)
      refine lv_iload_n hx hb dX4_times_38 rfl (lv_at hl 1 rfl) ?_
      refine q_top (show (x0) = bI (BitVec.ofNat 8 (tn x0)) from tn_B (by omega) (by omega)) ?_
      refine lv_iload_n hx hb dX4_times_39 rfl (lv_at hl 2 rfl) ?_
      refine q_top (show (x1) = bI (BitVec.ofNat 8 (tn x1)) from tn_B (by omega) (by omega)) ?_
      refine q_csi (va_runS (As := [.int (bI (BitVec.ofNat 8 (tn x0))), .int (bI (BitVec.ofNat 8 (tn x1)))]) (rest := []) ⟨hx, hb, hml, hown, hts⟩ (c_X4_product l (BitVec.ofNat 8 (tn x0)) (BitVec.ofNat 8 (tn x1)) ) (va_cwS 2 hts gX4_times_X4_product rfl rfl rfl hd_X4_product ⟨Nat.le_of_ble_eq_true rfl, Nat.le_of_ble_eq_true rfl⟩) P0_s rfl rfl hl.1 rfl (lv_room (Nat.le_of_ble_eq_true rfl)) dX4_times_40 ⟨Nat.le_of_ble_eq_true rfl, Nat.le_of_ble_eq_true rfl⟩) (fun r_40 hr_40 => ?_)
      obtain rfl : r_40 = bI (fm (BitVec.ofNat 8 (tn x0)) (BitVec.ofNat 8 (tn x1))) := hr_40
      refine lv_goto (tgt := 47) hx hb dX4_times_43 (by decide) ?_
      exact W.iret (v := bI (fm (BitVec.ofNat 8 (tn x0)) (BitVec.ofNat 8 (tn x1)))) hx hb hr (fun t ht hW => ⟨⟨_, (wM cI cZ am (k) (pat) (dat) (sent) (rc) (los) (wai) (set) (bad) (gon) (rep) (sil) (0) (na)), rfl, (by first | exact Or.inl ⟨rfl, by omega, rfl⟩ | exact Or.inr (⟨rfl, by omega, rfl⟩)), by rw [ht]; exact hP, hD⟩, hS.F ht⟩) hS.2.2 dX4_times_47
    · have h_17 : ¬ (0 ≤ x1.toInt ∧ x1.toInt ≤ 255) := h_17
      refine q_if_eq (u := ((0 : Nat) : Int)) (tgt := 27) hx hb dX4_times_20 (by decide) (nI_toInt (by omega)) (fun _ => ?_) (fun c_20 => absurd c_20 (by decide))
      refine lv_iconst (v := nI (1)) hx hb dX4_times_27 (by decide) ?_
      refine va_put (D := D) (ci := 3) (v := .int (nI (1))) (ty := .int) (C := RX4) (T := TX4) (N := 14) hx hb hts iwX4_times_X4 tyX4 tyX4_ok nmX4 hown hK hP hD hS 0 rfl rfl 12 (by decide) (hts (.fieldLink RX4 39 "RepairSenderModel" "thrown" "I") (List.mem_of_getElem? (i := 1) rfl)) (fun _ h9 => h9) rfl (by decide +kernel) rfl rfl (Nat.le_of_ble_eq_true rfl) dX4_times_28 (fun H locs hP hD hS => ?_)
      have hP : va_P D vwCl (wM cI cZ am (k) (pat) (dat) (sent) (rc) (los) (wai) (set) (bad) (gon) (rep) (sil) (1) (na)) H := hP
      have hD : va_D A (wM cI cZ am (k) (pat) (dat) (sent) (rc) (los) (wai) (set) (bad) (gon) (rep) (sil) (1) (na)) := hD
      refine lv_aload_n hx hb dX4_times_31 rfl (lv_at hl 0 rfl) ?_
      refine va_get (D := D) (ci := 3) (v := .int (nI (1))) (C := RX4) (T := TX4) (N := 14) hx hb hts iwX4_times_X4 hown hK hP 0 rfl rfl 12 (by decide) (hts (.fieldLink RX4 39 "RepairSenderModel" "thrown" "I") (List.mem_of_getElem? (i := 1) rfl)) (fun _ h9 => h9) rfl dX4_times_32 ?_
      refine q_if_ne (u := ((1 : Nat) : Int)) (tgt := 46) hx hb dX4_times_35 (by decide) (nI_toInt (by omega)) (fun _ => ?_) (fun c_35 => absurd c_35 (by decide))
      refine lv_iconst (v := nI (0)) hx hb dX4_times_46 (by decide) ?_
      exact W.iret (v := nI (0)) hx hb hr (fun t ht hW => ⟨⟨_, (wM cI cZ am (k) (pat) (dat) (sent) (rc) (los) (wai) (set) (bad) (gon) (rep) (sil) (1) (na)), rfl, (by first | exact Or.inl ⟨rfl, by omega, rfl⟩ | exact Or.inr (⟨rfl, by omega, rfl⟩)), by rw [ht]; exact hP, hD⟩, hS.F ht⟩) hS.2.2 dX4_times_47
  · have h_6 : ¬ (0 ≤ x0.toInt ∧ x0.toInt ≤ 255) := h_6
    refine q_if_eq (u := ((0 : Nat) : Int)) (tgt := 27) hx hb dX4_times_9 (by decide) (nI_toInt (by omega)) (fun _ => ?_) (fun c_9 => absurd c_9 (by decide))
    refine lv_iconst (v := nI (1)) hx hb dX4_times_27 (by decide) ?_
    refine va_put (D := D) (ci := 3) (v := .int (nI (1))) (ty := .int) (C := RX4) (T := TX4) (N := 14) hx hb hts iwX4_times_X4 tyX4 tyX4_ok nmX4 hown hK hP hD hS 0 rfl rfl 12 (by decide) (hts (.fieldLink RX4 39 "RepairSenderModel" "thrown" "I") (List.mem_of_getElem? (i := 1) rfl)) (fun _ h9 => h9) rfl (by decide +kernel) rfl rfl (Nat.le_of_ble_eq_true rfl) dX4_times_28 (fun H locs hP hD hS => ?_)
    have hP : va_P D vwCl (wM cI cZ am (k) (pat) (dat) (sent) (rc) (los) (wai) (set) (bad) (gon) (rep) (sil) (1) (na)) H := hP
    have hD : va_D A (wM cI cZ am (k) (pat) (dat) (sent) (rc) (los) (wai) (set) (bad) (gon) (rep) (sil) (1) (na)) := hD
    refine lv_aload_n hx hb dX4_times_31 rfl (lv_at hl 0 rfl) ?_
    refine va_get (D := D) (ci := 3) (v := .int (nI (1))) (C := RX4) (T := TX4) (N := 14) hx hb hts iwX4_times_X4 hown hK hP 0 rfl rfl 12 (by decide) (hts (.fieldLink RX4 39 "RepairSenderModel" "thrown" "I") (List.mem_of_getElem? (i := 1) rfl)) (fun _ h9 => h9) rfl dX4_times_32 ?_
    refine q_if_ne (u := ((1 : Nat) : Int)) (tgt := 46) hx hb dX4_times_35 (by decide) (nI_toInt (by omega)) (fun _ => ?_) (fun c_35 => absurd c_35 (by decide))
    refine lv_iconst (v := nI (0)) hx hb dX4_times_46 (by decide) ?_
    exact W.iret (v := nI (0)) hx hb hr (fun t ht hW => ⟨⟨_, (wM cI cZ am (k) (pat) (dat) (sent) (rc) (los) (wai) (set) (bad) (gon) (rep) (sil) (1) (na)), rfl, (by first | exact Or.inl ⟨rfl, by omega, rfl⟩ | exact Or.inr (⟨rfl, by omega, rfl⟩)), by rw [ht]; exact hP, hD⟩, hS.F ht⟩) hS.2.2 dX4_times_47

theorem iwX4_packet_X4 : ∀ w ∈ wsX40, w ∈ wsX4_packet := by decide +kernel
set_option maxHeartbeats 4000000 in
set_option maxRecDepth 100000 in
theorem c_X4_packet (l : Launch) (D : va_G) (cI cZ cQ cL : ClassId) (am : Nat → Nat) (k : Nat) (pat : Nat) (dat : Nat → B8) (sent : Nat) (rc : Nat) (los : Nat → Nat) (wai : Nat → Nat) (set : Nat → Nat) (bad : Nat → Nat) (gon : Nat → Nat) (rep : Nat) (sil : Nat) (thr : Nat) (na : Nat → Nat) (x0 : Int32) (sz : Nat) (hbk : k ≤ 8) : Met l yX4_packet wsX4_packet ({ frames := 2, cells := 0, slots := 0, locals := 45 } : Room) (PW D (TY cI cZ cQ cL) (wM cI cZ am (k) (pat) (dat) (sent) (rc) (los) (wai) (set) (bad) (gon) (rep) (sil) (thr) (na)) sz [.ref (am 0), .int (x0)]) (QI D (va_A (wM cI cZ am (k) (pat) (dat) (sent) (rc) (los) (wai) (set) (bad) (gon) (rep) (sil) (thr) (na)) sz) (fun z9 (u9 : va_W) => (z9 = bI (dat (tn x0)) ∧ ((0 ≤ x0.toInt ∧ x0.toInt ≤ 15) ∧ x0.toInt < k) ∧ u9 = (wM cI cZ am (k) (pat) (dat) (sent) (rc) (los) (wai) (set) (bad) (gon) (rep) (sil) (0) (na))) ∨ (z9 = bI (lagM k dat (BitVec.ofNat 8 (tn x0))) ∧ ((0 ≤ x0.toInt ∧ x0.toInt ≤ 15) ∧ ¬ x0.toInt < k) ∧ u9 = (wM cI cZ am (k) (pat) (dat) (sent) (rc) (los) (wai) (set) (bad) (gon) (rep) (sil) (0) (na))) ∨ (z9 = nI (0) ∧ (¬ (0 ≤ x0.toInt ∧ x0.toInt ≤ 15)) ∧ u9 = (wM cI cZ am (k) (pat) (dat) (sent) (rc) (los) (wai) (set) (bad) (gon) (rep) (sil) (1) (na)))) (fun u9 => u9)) 0 0 (va_A (wM cI cZ am (k) (pat) (dat) (sent) (rc) (los) (wai) (set) (bad) (gon) (rep) (sil) (thr) (na)) sz) := by
  refine Met.ofW (cc := cX4_packet) (maxL := 7) (ret := (some .int)) (by decide) rfl ?_
  intro p e s m args below meth c s₁ B hml hv
  obtain ⟨rfl, hsz, hP, hK, hD0, hN⟩ := hv
  have hx := B.exec
  have hb := B.bytes
  have hr := B.returns
  have hts := atoms_spec (ws := wsX4_packet) B.pre
  have hown : s.vm.findClass RX4 = some m.cls := findClass_of_methodNamed B.named
  have hlocks := B.notSynchronized
  subst hsz
  have hD := hD0.self (sz := s.heap.size)
  generalize hAe : va_A (wM cI cZ am (k) (pat) (dat) (sent) (rc) (los) (wai) (set) (bad) (gon) (rep) (sil) (thr) (na)) s.heap.size = A at hD ⊢
  have hA : ∀ q : Nat, s.heap.size ≤ q → A q := fun q h => by rw [← hAe]; exact Or.inr h
  have hS : va_S A s.heap s.heap [] := va_S.rf
  have hl := lv_entry ([.ref (am 0), .int (x0)]) (n := 7) (Nat.le_of_ble_eq_true rfl)
  rw [lg_entry_eq]
  generalize (lg_sl ([.ref (am 0), .int (x0)]) ++ List.replicate (7 - (lg_sl ([.ref (am 0), .int (x0)])).length) Slot.unset).toArray = ls at hl ⊢
  have hl : lv_has ls 7 [(0, .ref (am 0)), (1, .int (x0))] := hl
  refine lv_aload_n hx hb dX4_packet_0 rfl (lv_at hl 0 rfl) ?_
  refine lv_iload_n hx hb dX4_packet_1 rfl (lv_at hl 1 rfl) ?_
  refine lv_iconst (v := nI (0)) hx hb dX4_packet_2 (by decide) ?_
  refine lv_bipush (v := nI (15)) hx hb dX4_packet_3 (by decide) ?_
  refine q_csi (va_runS (As := [.int (x0), .int (nI (0)), .int (nI (15))]) (rest := [.ref (am 0)]) ⟨hx, hb, hml, hown, hts⟩ (c_X4_in l (x0) (nI 0) (nI 15) (0) (15) (by decide) (by decide)) (va_cwS 3 hts gX4_packet_X4_in rfl rfl rfl hd_X4_in ⟨Nat.le_of_ble_eq_true rfl, Nat.le_of_ble_eq_true rfl⟩) P0_s rfl rfl hl.1 rfl (lv_room (Nat.le_of_ble_eq_true rfl)) dX4_packet_5 ⟨Nat.le_of_ble_eq_true rfl, Nat.le_of_ble_eq_true rfl⟩) (fun r_5 hr_5 => ?_)
  rcases hr_5 with ⟨rfl, h_5⟩ | ⟨rfl, h_5⟩
  · have h_5 : 0 ≤ x0.toInt ∧ x0.toInt ≤ 15 := h_5
    refine q_if_eq (u := ((1 : Nat) : Int)) (tgt := 15) hx hb dX4_packet_8 (by decide) (nI_toInt (by omega)) (fun c_8 => absurd c_8 (by decide)) (fun _ => ?_)
    refine lv_iconst (v := nI (0)) hx hb dX4_packet_11 (by decide) ?_
    refine lv_goto (tgt := 16) hx hb dX4_packet_12 (by decide) ?_
    refine va_put (D := D) (ci := 3) (v := .int (nI (0))) (ty := .int) (C := RX4) (T := TX4) (N := 14) hx hb hts iwX4_packet_X4 tyX4 tyX4_ok nmX4 hown hK hP hD hS 0 rfl rfl 12 (by decide) (hts (.fieldLink RX4 39 "RepairSenderModel" "thrown" "I") (List.mem_of_getElem? (i := 1) rfl)) (fun _ h9 => h9) rfl (by decide +kernel) rfl rfl (Nat.le_of_ble_eq_true rfl) dX4_packet_16 (fun H locs hP hD hS => ?_)
    have hP : va_P D vwCl (wM cI cZ am (k) (pat) (dat) (sent) (rc) (los) (wai) (set) (bad) (gon) (rep) (sil) (0) (na)) H := hP
    have hD : va_D A (wM cI cZ am (k) (pat) (dat) (sent) (rc) (los) (wai) (set) (bad) (gon) (rep) (sil) (0) (na)) := hD
    refine lv_aload_n hx hb dX4_packet_19 rfl (lv_at hl 0 rfl) ?_
    refine va_get (D := D) (ci := 3) (v := .int (nI (0))) (C := RX4) (T := TX4) (N := 14) hx hb hts iwX4_packet_X4 hown hK hP 0 rfl rfl 12 (by decide) (hts (.fieldLink RX4 39 "RepairSenderModel" "thrown" "I") (List.mem_of_getElem? (i := 1) rfl)) (fun _ h9 => h9) rfl dX4_packet_20 ?_
    refine q_if_le (u := ((0 : Nat) : Int)) (tgt := 28) hx hb dX4_packet_23 (by decide) (nI_toInt (by omega)) (fun _ => ?_) (fun c_23 => absurd c_23 (by decide))
    have ht_x0 := tn_i (x := x0) (by omega)
    refine lv_iload_n hx hb dX4_packet_28 rfl (lv_at hl 1 rfl) ?_
    refine lv_aload_n hx hb dX4_packet_29 rfl (lv_at hl 0 rfl) ?_
    refine va_get (D := D) (ci := 3) (v := .int (nI (k))) (C := RX4) (T := TX4) (N := 14) hx hb hts iwX4_packet_X4 hown hK hP 0 rfl rfl 0 (by decide) (hts (.fieldLink RX4 32 "RepairSenderModel" "size" "I") (List.mem_of_getElem? (i := 2) rfl)) (fun _ h9 => h9) rfl dX4_packet_30 ?_
    refine q_icmp_ge (u := (x0).toInt) (v := ((k : Nat) : Int)) (tgt := 43) hx hb dX4_packet_33 (by decide) (rfl) (nI_toInt (by omega)) (fun c_33 => ?_) (fun c_33 => ?_)
    · skip
      refine lv_iconst (v := nI (0)) hx hb dX4_packet_43 (by decide) ?_
      refine q_top (show nI (0) = bI (0) from rfl) ?_
      refine lv_istore_n (lv' := [(2, .int (bI (0))), (0, .ref (am 0)), (1, .int (x0))]) hx hb dX4_packet_44 rfl hl (by decide) rfl (fun ls hl => ?_)
      refine lv_iconst (v := nI (0)) hx hb dX4_packet_45 (by decide) ?_
      refine lv_istore_n (lv' := [(3, .int (nI (0))), (2, .int (bI (0))), (0, .ref (am 0)), (1, .int (x0))]) hx hb dX4_packet_46 rfl hl (by decide) rfl (fun ls hl => ?_)
      have L47_4 : ∀ (n47_4 : Nat) (i : Nat), k - i < n47_4 → (i ≤ k) → ∀ (H : Heap) (locs : List Loc), va_P D vwCl (wM cI cZ am (k) (pat) (dat) (sent) (rc) (los) (wai) (set) (bad) (gon) (rep) (sil) (0) (na)) H → va_D A (wM cI cZ am (k) (pat) (dat) (sent) (rc) (los) (wai) (set) (bad) (gon) (rep) (sil) (0) (na)) → va_S A s.heap H locs → ∀ (ls : Array Slot), lv_has ls 7 [(0, .ref (am 0)), (1, .int (x0)), (2, .int (bI (fs i (fun q => fm (mab k (dat q) (BitVec.ofNat 8 (tn x0)) q k) (finv (mab k 1 (BitVec.ofNat 8 q) q k)))))), (3, .int (nI (i)))] → W p l e (headSpec wsX4_packet ({ frames := 2, cells := 0, slots := 0, locals := 45 } : Room)).room s m ([.ref (am 0), .int (x0)] : List Value).toArray below meth c H locs 0 0 (MQ below (QI D A (fun z9 (u9 : va_W) => (z9 = bI (dat (tn x0)) ∧ ((0 ≤ x0.toInt ∧ x0.toInt ≤ 15) ∧ x0.toInt < k) ∧ u9 = (wM cI cZ am (k) (pat) (dat) (sent) (rc) (los) (wai) (set) (bad) (gon) (rep) (sil) (0) (na))) ∨ (z9 = bI (lagM k dat (BitVec.ofNat 8 (tn x0))) ∧ ((0 ≤ x0.toInt ∧ x0.toInt ≤ 15) ∧ ¬ x0.toInt < k) ∧ u9 = (wM cI cZ am (k) (pat) (dat) (sent) (rc) (los) (wai) (set) (bad) (gon) (rep) (sil) (0) (na))) ∨ (z9 = nI (0) ∧ (¬ (0 ≤ x0.toInt ∧ x0.toInt ≤ 15)) ∧ u9 = (wM cI cZ am (k) (pat) (dat) (sent) (rc) (los) (wai) (set) (bad) (gon) (rep) (sil) (1) (na)))) (fun u9 => u9)) ([.ref (am 0), .int (x0)] : List Value).toArray s 0 0 A) (F0 m 47 ls []) := by
        intro n47_4
        induction n47_4 with
        | zero =>
          intro i hn47_4
          exact absurd hn47_4 (Nat.not_lt_zero _)
        | succ n47_4 ih47_4 =>
          intro i hn47_4 hi H locs hP hD hS ls hl
          refine lv_iload_n hx hb dX4_packet_47 rfl (lv_at hl 3 rfl) ?_
          refine lv_aload_n hx hb dX4_packet_48 rfl (lv_at hl 0 rfl) ?_
          refine va_get (D := D) (ci := 3) (v := .int (nI (k))) (C := RX4) (T := TX4) (N := 14) hx hb hts iwX4_packet_X4 hown hK hP 0 rfl rfl 0 (by decide) (hts (.fieldLink RX4 32 "RepairSenderModel" "size" "I") (List.mem_of_getElem? (i := 2) rfl)) (fun _ h9 => h9) rfl dX4_packet_49 ?_
          refine q_icmp_ge (u := ((i : Nat) : Int)) (v := ((k : Nat) : Int)) (tgt := 147) hx hb dX4_packet_52 (by decide) (nI_toInt (by omega)) (nI_toInt (by omega)) (fun c_52 => ?_) (fun c_52 => ?_)
          · obtain rfl : k = i := by omega
            refine lv_iload_n hx hb dX4_packet_147 rfl (lv_at hl 2 rfl) ?_
            exact W.iret (v := bI (fs k (fun q => fm (mab k (dat q) (BitVec.ofNat 8 (tn x0)) q k) (finv (mab k 1 (BitVec.ofNat 8 q) q k))))) hx hb hr (fun t ht hW => ⟨⟨_, (wM cI cZ am (k) (pat) (dat) (sent) (rc) (los) (wai) (set) (bad) (gon) (rep) (sil) (0) (na)), rfl, (by first | exact Or.inl ⟨rfl, by omega, rfl⟩ | exact Or.inr (Or.inl ⟨rfl, by omega, rfl⟩) | exact Or.inr (Or.inr (⟨rfl, by omega, rfl⟩))), by rw [ht]; exact hP, hD⟩, hS.F ht⟩) hS.2.2 dX4_packet_148
          · skip
            refine lv_aload_n hx hb dX4_packet_55 rfl (lv_at hl 0 rfl) ?_
            refine va_get (D := D) (ci := 3) (v := .ref (am 1)) (C := RX4) (T := TX4) (N := 14) hx hb hts iwX4_packet_X4 hown hK hP 0 rfl rfl 2 (by decide) (hts (.fieldLink RX4 7 "RepairSenderModel" "data" "[I") (List.mem_of_getElem? (i := 3) rfl)) (fun _ h9 => h9) rfl dX4_packet_56 ?_
            refine lv_iload_n hx hb dX4_packet_59 rfl (lv_at hl 3 rfl) ?_
            refine q_ialdB (f := dat) (j := i) hx hb hK hP 1 0 rfl rfl (by omega) (by decide) dX4_packet_60 ?_
            refine lv_istore (lv' := [(4, .int (bI (dat i))), (0, .ref (am 0)), (1, .int (x0)), (2, .int (bI (fs i (fun q => fm (mab k (dat q) (BitVec.ofNat 8 (tn x0)) q k) (finv (mab k 1 (BitVec.ofNat 8 q) q k)))))), (3, .int (nI (i)))]) hx hb dX4_packet_61 hl (by decide) rfl (fun ls hl => ?_)
            refine lv_iconst (v := nI (1)) hx hb dX4_packet_63 (by decide) ?_
            refine q_top (show nI (1) = bI (1) from rfl) ?_
            refine lv_istore (lv' := [(5, .int (bI (1))), (4, .int (bI (dat i))), (0, .ref (am 0)), (1, .int (x0)), (2, .int (bI (fs i (fun q => fm (mab k (dat q) (BitVec.ofNat 8 (tn x0)) q k) (finv (mab k 1 (BitVec.ofNat 8 q) q k)))))), (3, .int (nI (i)))]) hx hb dX4_packet_64 hl (by decide) rfl (fun ls hl => ?_)
            refine lv_iconst (v := nI (0)) hx hb dX4_packet_66 (by decide) ?_
            refine lv_istore (lv' := [(6, .int (nI (0))), (5, .int (bI (1))), (4, .int (bI (dat i))), (0, .ref (am 0)), (1, .int (x0)), (2, .int (bI (fs i (fun q => fm (mab k (dat q) (BitVec.ofNat 8 (tn x0)) q k) (finv (mab k 1 (BitVec.ofNat 8 q) q k)))))), (3, .int (nI (i)))]) hx hb dX4_packet_67 hl (by decide) rfl (fun ls hl => ?_)
            have L69_6 : ∀ (n69_6 : Nat) (j : Nat), k - j < n69_6 → (j ≤ k) → ∀ (H : Heap) (locs : List Loc), va_P D vwCl (wM cI cZ am (k) (pat) (dat) (sent) (rc) (los) (wai) (set) (bad) (gon) (rep) (sil) (0) (na)) H → va_D A (wM cI cZ am (k) (pat) (dat) (sent) (rc) (los) (wai) (set) (bad) (gon) (rep) (sil) (0) (na)) → va_S A s.heap H locs → ∀ (ls : Array Slot), lv_has ls 7 [(0, .ref (am 0)), (1, .int (x0)), (2, .int (bI (fs i (fun q => fm (mab k (dat q) (BitVec.ofNat 8 (tn x0)) q k) (finv (mab k 1 (BitVec.ofNat 8 q) q k)))))), (3, .int (nI (i))), (4, .int (bI (mab k (dat i) (BitVec.ofNat 8 (tn x0)) i j))), (5, .int (bI (mab k 1 (BitVec.ofNat 8 i) i j))), (6, .int (nI (j)))] → W p l e (headSpec wsX4_packet ({ frames := 2, cells := 0, slots := 0, locals := 45 } : Room)).room s m ([.ref (am 0), .int (x0)] : List Value).toArray below meth c H locs 0 0 (MQ below (QI D A (fun z9 (u9 : va_W) => (z9 = bI (dat (tn x0)) ∧ ((0 ≤ x0.toInt ∧ x0.toInt ≤ 15) ∧ x0.toInt < k) ∧ u9 = (wM cI cZ am (k) (pat) (dat) (sent) (rc) (los) (wai) (set) (bad) (gon) (rep) (sil) (0) (na))) ∨ (z9 = bI (lagM k dat (BitVec.ofNat 8 (tn x0))) ∧ ((0 ≤ x0.toInt ∧ x0.toInt ≤ 15) ∧ ¬ x0.toInt < k) ∧ u9 = (wM cI cZ am (k) (pat) (dat) (sent) (rc) (los) (wai) (set) (bad) (gon) (rep) (sil) (0) (na))) ∨ (z9 = nI (0) ∧ (¬ (0 ≤ x0.toInt ∧ x0.toInt ≤ 15)) ∧ u9 = (wM cI cZ am (k) (pat) (dat) (sent) (rc) (los) (wai) (set) (bad) (gon) (rep) (sil) (1) (na)))) (fun u9 => u9)) ([.ref (am 0), .int (x0)] : List Value).toArray s 0 0 A) (F0 m 69 ls []) := by
              intro n69_6
              induction n69_6 with
              | zero =>
                intro j hn69_6
                exact absurd hn69_6 (Nat.not_lt_zero _)
              | succ n69_6 ih69_6 =>
                intro j hn69_6 hj H locs hP hD hS ls hl
                refine lv_iload hx hb dX4_packet_69 (lv_at hl 6 rfl) ?_
                refine lv_aload_n hx hb dX4_packet_71 rfl (lv_at hl 0 rfl) ?_
                refine va_get (D := D) (ci := 3) (v := .int (nI (k))) (C := RX4) (T := TX4) (N := 14) hx hb hts iwX4_packet_X4 hown hK hP 0 rfl rfl 0 (by decide) (hts (.fieldLink RX4 32 "RepairSenderModel" "size" "I") (List.mem_of_getElem? (i := 2) rfl)) (fun _ h9 => h9) rfl dX4_packet_72 ?_
                refine q_icmp_ge (u := ((j : Nat) : Int)) (v := ((k : Nat) : Int)) (tgt := 128) hx hb dX4_packet_75 (by decide) (nI_toInt (by omega)) (nI_toInt (by omega)) (fun c_75 => ?_) (fun c_75 => ?_)
                · obtain rfl : k = j := by omega
                  refine lv_iload_n hx hb dX4_packet_128 rfl (lv_at hl 2 rfl) ?_
                  refine lv_iload hx hb dX4_packet_129 (lv_at hl 4 rfl) ?_
                  refine lv_iload hx hb dX4_packet_131 (lv_at hl 5 rfl) ?_
                  refine q_csi (va_runS (As := [.int (bI (mab k 1 (BitVec.ofNat 8 i) i k))]) (rest := [.int (bI (mab k (dat i) (BitVec.ofNat 8 (tn x0)) i k)), .int (bI (fs i (fun q => fm (mab k (dat q) (BitVec.ofNat 8 (tn x0)) q k) (finv (mab k 1 (BitVec.ofNat 8 q) q k)))))]) ⟨hx, hb, hml, hown, hts⟩ (c_X4_inverse l (mab k 1 (BitVec.ofNat 8 i) i k) (mab_ne hbk (by omega))) (va_cwS 1 hts gX4_packet_X4_inverse rfl rfl rfl hd_X4_inverse ⟨Nat.le_of_ble_eq_true rfl, Nat.le_of_ble_eq_true rfl⟩) P0_s rfl rfl hl.1 rfl (lv_room (Nat.le_of_ble_eq_true rfl)) dX4_packet_133 ⟨Nat.le_of_ble_eq_true rfl, Nat.le_of_ble_eq_true rfl⟩) (fun r_133 hr_133 => ?_)
                  obtain rfl : r_133 = bI (finv (mab k 1 (BitVec.ofNat 8 i) i k)) := hr_133
                  refine q_csi (va_runS (As := [.int (bI (mab k (dat i) (BitVec.ofNat 8 (tn x0)) i k)), .int (bI (finv (mab k 1 (BitVec.ofNat 8 i) i k)))]) (rest := [.int (bI (fs i (fun q => fm (mab k (dat q) (BitVec.ofNat 8 (tn x0)) q k) (finv (mab k 1 (BitVec.ofNat 8 q) q k)))))]) ⟨hx, hb, hml, hown, hts⟩ (c_X4_product l (mab k (dat i) (BitVec.ofNat 8 (tn x0)) i k) (finv (mab k 1 (BitVec.ofNat 8 i) i k)) ) (va_cwS 2 hts gX4_packet_X4_product rfl rfl rfl hd_X4_product ⟨Nat.le_of_ble_eq_true rfl, Nat.le_of_ble_eq_true rfl⟩) P0_s rfl rfl hl.1 rfl (lv_room (Nat.le_of_ble_eq_true rfl)) dX4_packet_136 ⟨Nat.le_of_ble_eq_true rfl, Nat.le_of_ble_eq_true rfl⟩) (fun r_136 hr_136 => ?_)
                  obtain rfl : r_136 = bI (fm (mab k (dat i) (BitVec.ofNat 8 (tn x0)) i k) (finv (mab k 1 (BitVec.ofNat 8 i) i k))) := hr_136
                  refine lv_ixor hx hb dX4_packet_139 ?_
                  refine q_top (show (bI (fs i (fun q => fm (mab k (dat q) (BitVec.ofNat 8 (tn x0)) q k) (finv (mab k 1 (BitVec.ofNat 8 q) q k)))) ^^^ bI (fm (mab k (dat i) (BitVec.ofNat 8 (tn x0)) i k) (finv (mab k 1 (BitVec.ofNat 8 i) i k)))) = bI ((fs i (fun q => fm (mab k (dat q) (BitVec.ofNat 8 (tn x0)) q k) (finv (mab k 1 (BitVec.ofNat 8 q) q k)))) ^^^ (fm (mab k (dat i) (BitVec.ofNat 8 (tn x0)) i k) (finv (mab k 1 (BitVec.ofNat 8 i) i k)))) from bI_xor _ _) ?_
                  refine lv_istore_n (lv' := [(2, .int (bI ((fs i (fun q => fm (mab k (dat q) (BitVec.ofNat 8 (tn x0)) q k) (finv (mab k 1 (BitVec.ofNat 8 q) q k)))) ^^^ (fm (mab k (dat i) (BitVec.ofNat 8 (tn x0)) i k) (finv (mab k 1 (BitVec.ofNat 8 i) i k)))))), (0, .ref (am 0)), (1, .int (x0)), (3, .int (nI (i))), (4, .int (bI (mab k (dat i) (BitVec.ofNat 8 (tn x0)) i k))), (5, .int (bI (mab k 1 (BitVec.ofNat 8 i) i k))), (6, .int (nI (k)))]) hx hb dX4_packet_140 rfl hl (by decide) rfl (fun ls hl => ?_)
                  refine lv_iinc (v := nI (i + 1)) (lv' := [(3, .int (nI (i + 1))), (2, .int (bI ((fs i (fun q => fm (mab k (dat q) (BitVec.ofNat 8 (tn x0)) q k) (finv (mab k 1 (BitVec.ofNat 8 q) q k)))) ^^^ (fm (mab k (dat i) (BitVec.ofNat 8 (tn x0)) i k) (finv (mab k 1 (BitVec.ofNat 8 i) i k)))))), (0, .ref (am 0)), (1, .int (x0)), (4, .int (bI (mab k (dat i) (BitVec.ofNat 8 (tn x0)) i k))), (5, .int (bI (mab k 1 (BitVec.ofNat 8 i) i k))), (6, .int (nI (k)))]) hx hb dX4_packet_141 hl (k := 3) rfl (show nI (i) + Int32.ofInt 1 = nI (i + 1) from nI_add (i) 1) (by decide) rfl (fun ls hl => ?_)
                  refine lv_goto (tgt := 47) hx hb dX4_packet_144 (by decide) ?_
                  exact ih47_4 (i + 1) (by omega) (by omega) _ _ hP hD hS ls (lv_sub hl [2, 3, 1, 0] rfl)
                · skip
                  refine lv_iload hx hb dX4_packet_78 (lv_at hl 6 rfl) ?_
                  refine lv_iload_n hx hb dX4_packet_80 rfl (lv_at hl 3 rfl) ?_
                  refine q_icmp_ne (u := ((j : Nat) : Int)) (v := ((i : Nat) : Int)) (tgt := 89) hx hb dX4_packet_81 (by decide) (nI_toInt (by omega)) (nI_toInt (by omega)) (fun c_81 => ?_) (fun c_81 => ?_)
                  · have e3 : ∀ d y, mab k d y i (j + 1) = fm (mab k d y i j) (y ^^^ (BitVec.ofNat 8 j)) := fun d y => if_neg (by omega)
                    have e4 := e3 1 (BitVec.ofNat 8 i)
                    have e3 := e3 (dat i) (BitVec.ofNat 8 (tn x0))
                    refine lv_iload hx hb dX4_packet_89 (lv_at hl 4 rfl) ?_
                    refine lv_iload_n hx hb dX4_packet_91 rfl (lv_at hl 1 rfl) ?_
                    refine q_top (show (x0) = bI (BitVec.ofNat 8 (tn x0)) from tn_B (by omega) (by omega)) ?_
                    refine lv_iload hx hb dX4_packet_92 (lv_at hl 6 rfl) ?_
                    refine q_top (show nI (j) = bI (BitVec.ofNat 8 j) from bI_of (by omega)) ?_
                    refine lv_ixor hx hb dX4_packet_94 ?_
                    refine q_top (show (bI (BitVec.ofNat 8 (tn x0)) ^^^ bI (BitVec.ofNat 8 j)) = bI ((BitVec.ofNat 8 (tn x0)) ^^^ (BitVec.ofNat 8 j)) from bI_xor _ _) ?_
                    refine q_csi (va_runS (As := [.int (bI (mab k (dat i) (BitVec.ofNat 8 (tn x0)) i j)), .int (bI ((BitVec.ofNat 8 (tn x0)) ^^^ (BitVec.ofNat 8 j)))]) (rest := []) ⟨hx, hb, hml, hown, hts⟩ (c_X4_product l (mab k (dat i) (BitVec.ofNat 8 (tn x0)) i j) ((BitVec.ofNat 8 (tn x0)) ^^^ (BitVec.ofNat 8 j)) ) (va_cwS 2 hts gX4_packet_X4_product rfl rfl rfl hd_X4_product ⟨Nat.le_of_ble_eq_true rfl, Nat.le_of_ble_eq_true rfl⟩) P0_s rfl rfl hl.1 rfl (lv_room (Nat.le_of_ble_eq_true rfl)) dX4_packet_95 ⟨Nat.le_of_ble_eq_true rfl, Nat.le_of_ble_eq_true rfl⟩) (fun r_95 hr_95 => ?_)
                    obtain rfl : r_95 = bI (fm (mab k (dat i) (BitVec.ofNat 8 (tn x0)) i j) ((BitVec.ofNat 8 (tn x0)) ^^^ (BitVec.ofNat 8 j))) := hr_95
                    refine lv_istore (lv' := [(4, .int (bI (fm (mab k (dat i) (BitVec.ofNat 8 (tn x0)) i j) ((BitVec.ofNat 8 (tn x0)) ^^^ (BitVec.ofNat 8 j))))), (0, .ref (am 0)), (1, .int (x0)), (2, .int (bI (fs i (fun q => fm (mab k (dat q) (BitVec.ofNat 8 (tn x0)) q k) (finv (mab k 1 (BitVec.ofNat 8 q) q k)))))), (3, .int (nI (i))), (5, .int (bI (mab k 1 (BitVec.ofNat 8 i) i j))), (6, .int (nI (j)))]) hx hb dX4_packet_98 hl (by decide) rfl (fun ls hl => ?_)
                    refine lv_iload hx hb dX4_packet_100 (lv_at hl 6 rfl) ?_
                    refine lv_iload_n hx hb dX4_packet_102 rfl (lv_at hl 4 rfl) ?_
                    refine q_icmp_ne (u := ((j : Nat) : Int)) (v := ((i : Nat) : Int)) (tgt := 111) hx hb dX4_packet_103 (by decide) (nI_toInt (by omega)) (nI_toInt (by omega)) (fun c_103 => ?_) (fun c_103 => ?_)
                    · skip
                      refine lv_iload hx hb dX4_packet_111 (lv_at hl 5 rfl) ?_
                      refine lv_iload_n hx hb dX4_packet_113 rfl (lv_at hl 4 rfl) ?_
                      refine q_top (show nI (i) = bI (BitVec.ofNat 8 i) from bI_of (by omega)) ?_
                      refine lv_iload hx hb dX4_packet_114 (lv_at hl 6 rfl) ?_
                      refine q_top (show nI (j) = bI (BitVec.ofNat 8 j) from bI_of (by omega)) ?_
                      refine lv_ixor hx hb dX4_packet_116 ?_
                      refine q_top (show (bI (BitVec.ofNat 8 i) ^^^ bI (BitVec.ofNat 8 j)) = bI ((BitVec.ofNat 8 i) ^^^ (BitVec.ofNat 8 j)) from bI_xor _ _) ?_
                      refine q_csi (va_runS (As := [.int (bI (mab k 1 (BitVec.ofNat 8 i) i j)), .int (bI ((BitVec.ofNat 8 i) ^^^ (BitVec.ofNat 8 j)))]) (rest := []) ⟨hx, hb, hml, hown, hts⟩ (c_X4_product l (mab k 1 (BitVec.ofNat 8 i) i j) ((BitVec.ofNat 8 i) ^^^ (BitVec.ofNat 8 j)) ) (va_cwS 2 hts gX4_packet_X4_product rfl rfl rfl hd_X4_product ⟨Nat.le_of_ble_eq_true rfl, Nat.le_of_ble_eq_true rfl⟩) P0_s rfl rfl hl.1 rfl (lv_room (Nat.le_of_ble_eq_true rfl)) dX4_packet_117 ⟨Nat.le_of_ble_eq_true rfl, Nat.le_of_ble_eq_true rfl⟩) (fun r_117 hr_117 => ?_)
                      obtain rfl : r_117 = bI (fm (mab k 1 (BitVec.ofNat 8 i) i j) ((BitVec.ofNat 8 i) ^^^ (BitVec.ofNat 8 j))) := hr_117
                      refine lv_istore (lv' := [(5, .int (bI (fm (mab k 1 (BitVec.ofNat 8 i) i j) ((BitVec.ofNat 8 i) ^^^ (BitVec.ofNat 8 j))))), (4, .int (bI (fm (mab k (dat i) (BitVec.ofNat 8 (tn x0)) i j) ((BitVec.ofNat 8 (tn x0)) ^^^ (BitVec.ofNat 8 j))))), (0, .ref (am 0)), (1, .int (x0)), (2, .int (bI (fs i (fun q => fm (mab k (dat q) (BitVec.ofNat 8 (tn x0)) q k) (finv (mab k 1 (BitVec.ofNat 8 q) q k)))))), (3, .int (nI (i))), (6, .int (nI (j)))]) hx hb dX4_packet_120 hl (by decide) rfl (fun ls hl => ?_)
                      refine lv_iinc (v := nI (j + 1)) (lv' := [(6, .int (nI (j + 1))), (5, .int (bI (fm (mab k 1 (BitVec.ofNat 8 i) i j) ((BitVec.ofNat 8 i) ^^^ (BitVec.ofNat 8 j))))), (4, .int (bI (fm (mab k (dat i) (BitVec.ofNat 8 (tn x0)) i j) ((BitVec.ofNat 8 (tn x0)) ^^^ (BitVec.ofNat 8 j))))), (0, .ref (am 0)), (1, .int (x0)), (2, .int (bI (fs i (fun q => fm (mab k (dat q) (BitVec.ofNat 8 (tn x0)) q k) (finv (mab k 1 (BitVec.ofNat 8 q) q k)))))), (3, .int (nI (i)))]) hx hb dX4_packet_122 hl (k := 6) rfl (show nI (j) + Int32.ofInt 1 = nI (j + 1) from nI_add (j) 1) (by decide) rfl (fun ls hl => ?_)
                      refine lv_goto (tgt := 69) hx hb dX4_packet_125 (by decide) ?_
                      exact ih69_6 (j + 1) (by omega) (by omega) _ _ hP hD hS ls (lv_sub hl [3, 4, 5, 6, 2, 1, 0] (by first | (rw [e3, e4]; rfl) | (exfalso; omega)))
                    · skip
                      refine lv_iload hx hb dX4_packet_106 (lv_at hl 5 rfl) ?_
                      refine lv_goto (tgt := 120) hx hb dX4_packet_108 (by decide) ?_
                      refine lv_istore (lv' := [(5, .int (bI (mab k 1 (BitVec.ofNat 8 i) i j))), (4, .int (bI (fm (mab k (dat i) (BitVec.ofNat 8 (tn x0)) i j) ((BitVec.ofNat 8 (tn x0)) ^^^ (BitVec.ofNat 8 j))))), (0, .ref (am 0)), (1, .int (x0)), (2, .int (bI (fs i (fun q => fm (mab k (dat q) (BitVec.ofNat 8 (tn x0)) q k) (finv (mab k 1 (BitVec.ofNat 8 q) q k)))))), (3, .int (nI (i))), (6, .int (nI (j)))]) hx hb dX4_packet_120 hl (by decide) rfl (fun ls hl => ?_)
                      refine lv_iinc (v := nI (j + 1)) (lv' := [(6, .int (nI (j + 1))), (5, .int (bI (mab k 1 (BitVec.ofNat 8 i) i j))), (4, .int (bI (fm (mab k (dat i) (BitVec.ofNat 8 (tn x0)) i j) ((BitVec.ofNat 8 (tn x0)) ^^^ (BitVec.ofNat 8 j))))), (0, .ref (am 0)), (1, .int (x0)), (2, .int (bI (fs i (fun q => fm (mab k (dat q) (BitVec.ofNat 8 (tn x0)) q k) (finv (mab k 1 (BitVec.ofNat 8 q) q k)))))), (3, .int (nI (i)))]) hx hb dX4_packet_122 hl (k := 6) rfl (show nI (j) + Int32.ofInt 1 = nI (j + 1) from nI_add (j) 1) (by decide) rfl (fun ls hl => ?_)
                      refine lv_goto (tgt := 69) hx hb dX4_packet_125 (by decide) ?_
                      exact ih69_6 (j + 1) (by omega) (by omega) _ _ hP hD hS ls (lv_sub hl [3, 4, 5, 6, 2, 1, 0] (by first | (rw [e3, e4]; rfl) | (exfalso; omega)))
                  · have e3 : ∀ d y, mab k d y i (j + 1) = mab k d y i j := fun d y => if_pos (by omega)
                    have e4 := e3 1 (BitVec.ofNat 8 i)
                    have e3 := e3 (dat i) (BitVec.ofNat 8 (tn x0))
                    refine lv_iload hx hb dX4_packet_84 (lv_at hl 4 rfl) ?_
                    refine lv_goto (tgt := 98) hx hb dX4_packet_86 (by decide) ?_
                    refine lv_istore (lv' := [(4, .int (bI (mab k (dat i) (BitVec.ofNat 8 (tn x0)) i j))), (0, .ref (am 0)), (1, .int (x0)), (2, .int (bI (fs i (fun q => fm (mab k (dat q) (BitVec.ofNat 8 (tn x0)) q k) (finv (mab k 1 (BitVec.ofNat 8 q) q k)))))), (3, .int (nI (i))), (5, .int (bI (mab k 1 (BitVec.ofNat 8 i) i j))), (6, .int (nI (j)))]) hx hb dX4_packet_98 hl (by decide) rfl (fun ls hl => ?_)
                    refine lv_iload hx hb dX4_packet_100 (lv_at hl 6 rfl) ?_
                    refine lv_iload_n hx hb dX4_packet_102 rfl (lv_at hl 4 rfl) ?_
                    refine q_icmp_ne (u := ((j : Nat) : Int)) (v := ((i : Nat) : Int)) (tgt := 111) hx hb dX4_packet_103 (by decide) (nI_toInt (by omega)) (nI_toInt (by omega)) (fun c_103 => ?_) (fun c_103 => ?_)
                    · skip
                      refine lv_iload hx hb dX4_packet_111 (lv_at hl 5 rfl) ?_
                      refine lv_iload_n hx hb dX4_packet_113 rfl (lv_at hl 4 rfl) ?_
                      refine q_top (show nI (i) = bI (BitVec.ofNat 8 i) from bI_of (by omega)) ?_
                      refine lv_iload hx hb dX4_packet_114 (lv_at hl 6 rfl) ?_
                      refine q_top (show nI (j) = bI (BitVec.ofNat 8 j) from bI_of (by omega)) ?_
                      refine lv_ixor hx hb dX4_packet_116 ?_
                      refine q_top (show (bI (BitVec.ofNat 8 i) ^^^ bI (BitVec.ofNat 8 j)) = bI ((BitVec.ofNat 8 i) ^^^ (BitVec.ofNat 8 j)) from bI_xor _ _) ?_
                      refine q_csi (va_runS (As := [.int (bI (mab k 1 (BitVec.ofNat 8 i) i j)), .int (bI ((BitVec.ofNat 8 i) ^^^ (BitVec.ofNat 8 j)))]) (rest := []) ⟨hx, hb, hml, hown, hts⟩ (c_X4_product l (mab k 1 (BitVec.ofNat 8 i) i j) ((BitVec.ofNat 8 i) ^^^ (BitVec.ofNat 8 j)) ) (va_cwS 2 hts gX4_packet_X4_product rfl rfl rfl hd_X4_product ⟨Nat.le_of_ble_eq_true rfl, Nat.le_of_ble_eq_true rfl⟩) P0_s rfl rfl hl.1 rfl (lv_room (Nat.le_of_ble_eq_true rfl)) dX4_packet_117 ⟨Nat.le_of_ble_eq_true rfl, Nat.le_of_ble_eq_true rfl⟩) (fun r_117 hr_117 => ?_)
                      obtain rfl : r_117 = bI (fm (mab k 1 (BitVec.ofNat 8 i) i j) ((BitVec.ofNat 8 i) ^^^ (BitVec.ofNat 8 j))) := hr_117
                      refine lv_istore (lv' := [(5, .int (bI (fm (mab k 1 (BitVec.ofNat 8 i) i j) ((BitVec.ofNat 8 i) ^^^ (BitVec.ofNat 8 j))))), (4, .int (bI (mab k (dat i) (BitVec.ofNat 8 (tn x0)) i j))), (0, .ref (am 0)), (1, .int (x0)), (2, .int (bI (fs i (fun q => fm (mab k (dat q) (BitVec.ofNat 8 (tn x0)) q k) (finv (mab k 1 (BitVec.ofNat 8 q) q k)))))), (3, .int (nI (i))), (6, .int (nI (j)))]) hx hb dX4_packet_120 hl (by decide) rfl (fun ls hl => ?_)
                      refine lv_iinc (v := nI (j + 1)) (lv' := [(6, .int (nI (j + 1))), (5, .int (bI (fm (mab k 1 (BitVec.ofNat 8 i) i j) ((BitVec.ofNat 8 i) ^^^ (BitVec.ofNat 8 j))))), (4, .int (bI (mab k (dat i) (BitVec.ofNat 8 (tn x0)) i j))), (0, .ref (am 0)), (1, .int (x0)), (2, .int (bI (fs i (fun q => fm (mab k (dat q) (BitVec.ofNat 8 (tn x0)) q k) (finv (mab k 1 (BitVec.ofNat 8 q) q k)))))), (3, .int (nI (i)))]) hx hb dX4_packet_122 hl (k := 6) rfl (show nI (j) + Int32.ofInt 1 = nI (j + 1) from nI_add (j) 1) (by decide) rfl (fun ls hl => ?_)
                      refine lv_goto (tgt := 69) hx hb dX4_packet_125 (by decide) ?_
                      exact ih69_6 (j + 1) (by omega) (by omega) _ _ hP hD hS ls (lv_sub hl [3, 4, 5, 6, 2, 1, 0] (by first | (rw [e3, e4]; rfl) | (exfalso; omega)))
                    · skip
                      refine lv_iload hx hb dX4_packet_106 (lv_at hl 5 rfl) ?_
                      refine lv_goto (tgt := 120) hx hb dX4_packet_108 (by decide) ?_
                      refine lv_istore (lv' := [(5, .int (bI (mab k 1 (BitVec.ofNat 8 i) i j))), (4, .int (bI (mab k (dat i) (BitVec.ofNat 8 (tn x0)) i j))), (0, .ref (am 0)), (1, .int (x0)), (2, .int (bI (fs i (fun q => fm (mab k (dat q) (BitVec.ofNat 8 (tn x0)) q k) (finv (mab k 1 (BitVec.ofNat 8 q) q k)))))), (3, .int (nI (i))), (6, .int (nI (j)))]) hx hb dX4_packet_120 hl (by decide) rfl (fun ls hl => ?_)
                      refine lv_iinc (v := nI (j + 1)) (lv' := [(6, .int (nI (j + 1))), (5, .int (bI (mab k 1 (BitVec.ofNat 8 i) i j))), (4, .int (bI (mab k (dat i) (BitVec.ofNat 8 (tn x0)) i j))), (0, .ref (am 0)), (1, .int (x0)), (2, .int (bI (fs i (fun q => fm (mab k (dat q) (BitVec.ofNat 8 (tn x0)) q k) (finv (mab k 1 (BitVec.ofNat 8 q) q k)))))), (3, .int (nI (i)))]) hx hb dX4_packet_122 hl (k := 6) rfl (show nI (j) + Int32.ofInt 1 = nI (j + 1) from nI_add (j) 1) (by decide) rfl (fun ls hl => ?_)
                      refine lv_goto (tgt := 69) hx hb dX4_packet_125 (by decide) ?_
                      exact ih69_6 (j + 1) (by omega) (by omega) _ _ hP hD hS ls (lv_sub hl [3, 4, 5, 6, 2, 1, 0] (by first | (rw [e3, e4]; rfl) | (exfalso; omega)))
            exact L69_6 _ (0) (Nat.lt_succ_self _) (by omega) _ _ hP hD hS ls (lv_sub hl [3, 4, 5, 6, 2, 1, 0] rfl)
      exact L47_4 _ (0) (Nat.lt_succ_self _) (by omega) _ _ hP hD hS ls (lv_sub hl [2, 3, 1, 0] rfl)
    · skip
      refine lv_aload_n hx hb dX4_packet_36 rfl (lv_at hl 0 rfl) ?_
      refine va_get (D := D) (ci := 3) (v := .ref (am 1)) (C := RX4) (T := TX4) (N := 14) hx hb hts iwX4_packet_X4 hown hK hP 0 rfl rfl 2 (by decide) (hts (.fieldLink RX4 7 "RepairSenderModel" "data" "[I") (List.mem_of_getElem? (i := 3) rfl)) (fun _ h9 => h9) rfl dX4_packet_37 ?_
      refine lv_iload_n hx hb dX4_packet_40 rfl (lv_at hl 1 rfl) ?_
      refine q_top (show (x0) = nI (tn x0) from tn_I (by omega)) ?_
      refine q_ialdB (f := dat) (j := tn x0) hx hb hK hP 1 0 rfl rfl (by omega) (by decide) dX4_packet_41 ?_
      exact W.iret (v := bI (dat (tn x0))) hx hb hr (fun t ht hW => ⟨⟨_, (wM cI cZ am (k) (pat) (dat) (sent) (rc) (los) (wai) (set) (bad) (gon) (rep) (sil) (0) (na)), rfl, (by first | exact Or.inl ⟨rfl, by omega, rfl⟩ | exact Or.inr (Or.inl ⟨rfl, by omega, rfl⟩) | exact Or.inr (Or.inr (⟨rfl, by omega, rfl⟩))), by rw [ht]; exact hP, hD⟩, hS.F ht⟩) hS.2.2 dX4_packet_42
  · have h_5 : ¬ (0 ≤ x0.toInt ∧ x0.toInt ≤ 15) := h_5
    refine q_if_eq (u := ((0 : Nat) : Int)) (tgt := 15) hx hb dX4_packet_8 (by decide) (nI_toInt (by omega)) (fun _ => ?_) (fun c_8 => absurd c_8 (by decide))
    refine lv_iconst (v := nI (1)) hx hb dX4_packet_15 (by decide) ?_
    refine va_put (D := D) (ci := 3) (v := .int (nI (1))) (ty := .int) (C := RX4) (T := TX4) (N := 14) hx hb hts iwX4_packet_X4 tyX4 tyX4_ok nmX4 hown hK hP hD hS 0 rfl rfl 12 (by decide) (hts (.fieldLink RX4 39 "RepairSenderModel" "thrown" "I") (List.mem_of_getElem? (i := 1) rfl)) (fun _ h9 => h9) rfl (by decide +kernel) rfl rfl (Nat.le_of_ble_eq_true rfl) dX4_packet_16 (fun H locs hP hD hS => ?_)
    have hP : va_P D vwCl (wM cI cZ am (k) (pat) (dat) (sent) (rc) (los) (wai) (set) (bad) (gon) (rep) (sil) (1) (na)) H := hP
    have hD : va_D A (wM cI cZ am (k) (pat) (dat) (sent) (rc) (los) (wai) (set) (bad) (gon) (rep) (sil) (1) (na)) := hD
    refine lv_aload_n hx hb dX4_packet_19 rfl (lv_at hl 0 rfl) ?_
    refine va_get (D := D) (ci := 3) (v := .int (nI (1))) (C := RX4) (T := TX4) (N := 14) hx hb hts iwX4_packet_X4 hown hK hP 0 rfl rfl 12 (by decide) (hts (.fieldLink RX4 39 "RepairSenderModel" "thrown" "I") (List.mem_of_getElem? (i := 1) rfl)) (fun _ h9 => h9) rfl dX4_packet_20 ?_
    refine q_if_le (u := ((1 : Nat) : Int)) (tgt := 28) hx hb dX4_packet_23 (by decide) (nI_toInt (by omega)) (fun c_23 => absurd c_23 (by decide)) (fun _ => ?_)
    refine lv_iconst (v := nI (0)) hx hb dX4_packet_26 (by decide) ?_
    exact W.iret (v := nI (0)) hx hb hr (fun t ht hW => ⟨⟨_, (wM cI cZ am (k) (pat) (dat) (sent) (rc) (los) (wai) (set) (bad) (gon) (rep) (sil) (1) (na)), rfl, (by first | exact Or.inl ⟨rfl, by omega, rfl⟩ | exact Or.inr (Or.inl ⟨rfl, by omega, rfl⟩) | exact Or.inr (Or.inr (⟨rfl, by omega, rfl⟩))), by rw [ht]; exact hP, hD⟩, hS.F ht⟩) hS.2.2 dX4_packet_27

theorem iwX4_rebuilt_X4 : ∀ w ∈ wsX40, w ∈ wsX4_rebuilt := by decide +kernel
set_option maxHeartbeats 4000000 in
set_option maxRecDepth 100000 in
theorem c_X4_rebuilt (l : Launch) (D : va_G) (cI cZ cQ cL : ClassId) (am : Nat → Nat) (k : Nat) (pat : Nat) (dat : Nat → B8) (sent : Nat) (rc : Nat) (los : Nat → Nat) (wai : Nat → Nat) (set : Nat → Nat) (bad : Nat → Nat) (gon : Nat → Nat) (rep : Nat) (sil : Nat) (thr : Nat) (na : Nat → Nat) (x0 : Int32) (x1 : Int32) (sz : Nat) (hrc : rc ≤ 6) (hset : ∀ r, r < 6 → set r < 65536) (hbk : k ≤ 8) : Met l yX4_rebuilt wsX4_rebuilt ({ frames := 2, cells := 0, slots := 0, locals := 43 } : Room) (PW D (TY cI cZ cQ cL) (wM cI cZ am (k) (pat) (dat) (sent) (rc) (los) (wai) (set) (bad) (gon) (rep) (sil) (thr) (na)) sz [.ref (am 0), .int (x0), .int (x1)]) (QI D (va_A (wM cI cZ am (k) (pat) (dat) (sent) (rc) (los) (wai) (set) (bad) (gon) (rep) (sil) (thr) (na)) sz) (fun z9 (u9 : va_W) => (z9 = bI (dat (tn x1)) ∧ ((0 ≤ x0.toInt ∧ x0.toInt < rc) ∧ (0 ≤ x1.toInt ∧ x1.toInt < k) ∧ k ≤ pc (set (tn x0))) ∧ u9 = (wM cI cZ am (k) (pat) (dat) (sent) (rc) (los) (wai) (set) (bad) (gon) (rep) (sil) (0) (na))) ∨ (z9 = nI (0) ∧ (¬ ((0 ≤ x0.toInt ∧ x0.toInt < rc) ∧ (0 ≤ x1.toInt ∧ x1.toInt < k))) ∧ u9 = (wM cI cZ am (k) (pat) (dat) (sent) (rc) (los) (wai) (set) (bad) (gon) (rep) (sil) (1) (na))) ∨ (z9 = nI (0) ∧ (((0 ≤ x0.toInt ∧ x0.toInt < rc) ∧ (0 ≤ x1.toInt ∧ x1.toInt < k)) ∧ ¬ (k ≤ pc (set (tn x0)))) ∧ u9 = (wM cI cZ am (k) (pat) (dat) (sent) (rc) (los) (wai) (set) (bad) (gon) (rep) (sil) (2) (na)))) (fun u9 => u9)) 0 0 (va_A (wM cI cZ am (k) (pat) (dat) (sent) (rc) (los) (wai) (set) (bad) (gon) (rep) (sil) (thr) (na)) sz) := by
  refine Met.ofW (cc := cX4_rebuilt) (maxL := 3) (ret := (some .int)) (by decide) rfl ?_
  intro p e s m args below meth c s₁ B hml hv
  obtain ⟨rfl, hsz, hP, hK, hD0, hN⟩ := hv
  have hx := B.exec
  have hb := B.bytes
  have hr := B.returns
  have hts := atoms_spec (ws := wsX4_rebuilt) B.pre
  have hown : s.vm.findClass RX4 = some m.cls := findClass_of_methodNamed B.named
  have hlocks := B.notSynchronized
  subst hsz
  have hD := hD0.self (sz := s.heap.size)
  generalize hAe : va_A (wM cI cZ am (k) (pat) (dat) (sent) (rc) (los) (wai) (set) (bad) (gon) (rep) (sil) (thr) (na)) s.heap.size = A at hD ⊢
  have hA : ∀ q : Nat, s.heap.size ≤ q → A q := fun q h => by rw [← hAe]; exact Or.inr h
  have hS : va_S A s.heap s.heap [] := va_S.rf
  have hl := lv_entry ([.ref (am 0), .int (x0), .int (x1)]) (n := 3) (Nat.le_of_ble_eq_true rfl)
  rw [lg_entry_eq]
  generalize (lg_sl ([.ref (am 0), .int (x0), .int (x1)]) ++ List.replicate (3 - (lg_sl ([.ref (am 0), .int (x0), .int (x1)])).length) Slot.unset).toArray = ls at hl ⊢
  have hl : lv_has ls 3 [(0, .ref (am 0)), (1, .int (x0)), (2, .int (x1))] := hl
  refine lv_aload_n hx hb dX4_rebuilt_0 rfl (lv_at hl 0 rfl) ?_
  refine lv_aload_n hx hb dX4_rebuilt_1 rfl (lv_at hl 0 rfl) ?_
  refine lv_iload_n hx hb dX4_rebuilt_2 rfl (lv_at hl 1 rfl) ?_
  have hPc : va_P D vwCl (wM cI cZ am (k) (pat) (dat) (sent) (rc) (los) (wai) (set) (bad) (gon) (rep) (sil) (thr) (na)) s.heap := hP
  refine q_csi (va_runV (As := [.int (x0)]) (rest := [.ref (am 0)]) ⟨hx, hb, hml, hown, hts⟩ (c_X4_isReceiver l D cI cZ cQ cL (am) (k) (pat) (dat) (sent) (rc) (los) (wai) (set) (bad) (gon) (rep) (sil) (thr) (na) (x0) s.heap.size (hrc)) (cwV 1 hts gX4_rebuilt_X4_isReceiver rfl rfl rfl ⟨rfl, hd_X4_isReceiver⟩ ⟨Nat.le_of_ble_eq_true rfl, Nat.le_of_ble_eq_true rfl⟩) (PW_v (q := (RX4, TX4, 14)) (ci := 3) (q0 := 0) hPc hK hD hN rfl rfl) rfl rfl hl.1 rfl (lv_room (Nat.le_of_ble_eq_true rfl)) dX4_rebuilt_3 ⟨Nat.le_of_ble_eq_true rfl, Nat.le_of_ble_eq_true rfl⟩) (fun r_3 hr_3 => ?_)
  rcases hr_3 with ⟨rfl, h_3⟩ | ⟨rfl, h_3⟩
  · have h_3 : 0 ≤ x0.toInt ∧ x0.toInt < rc := h_3
    refine q_if_eq (u := ((1 : Nat) : Int)) (tgt := 23) hx hb dX4_rebuilt_6 (by decide) (nI_toInt (by omega)) (fun c_6 => absurd c_6 (by decide)) (fun _ => ?_)
    refine lv_iload_n hx hb dX4_rebuilt_9 rfl (lv_at hl 2 rfl) ?_
    refine lv_iconst (v := nI (0)) hx hb dX4_rebuilt_10 (by decide) ?_
    refine lv_aload_n hx hb dX4_rebuilt_11 rfl (lv_at hl 0 rfl) ?_
    refine va_get (D := D) (ci := 3) (v := .int (nI (k))) (C := RX4) (T := TX4) (N := 14) hx hb hts iwX4_rebuilt_X4 hown hK hP 0 rfl rfl 0 (by decide) (hts (.fieldLink RX4 32 "RepairSenderModel" "size" "I") (List.mem_of_getElem? (i := 1) rfl)) (fun _ h9 => h9) rfl dX4_rebuilt_12 ?_
    refine lv_iconst (v := nI (1)) hx hb dX4_rebuilt_15 (by decide) ?_
    refine lv_isub hx hb dX4_rebuilt_16 ?_
    refine q_csi (va_runS (As := [.int (x1), .int (nI (0)), .int (nI (k) - nI (1))]) (rest := [.ref (am 0)]) ⟨hx, hb, hml, hown, hts⟩ (c_X4_in l (x1) (nI 0) (nI k - nI 1) (0) ((k : Int) - 1) (by decide) (nI_m1i (by omega))) (va_cwS 3 hts gX4_rebuilt_X4_in rfl rfl rfl hd_X4_in ⟨Nat.le_of_ble_eq_true rfl, Nat.le_of_ble_eq_true rfl⟩) P0_s rfl rfl hl.1 rfl (lv_room (Nat.le_of_ble_eq_true rfl)) dX4_rebuilt_17 ⟨Nat.le_of_ble_eq_true rfl, Nat.le_of_ble_eq_true rfl⟩) (fun r_17 hr_17 => ?_)
    rcases hr_17 with ⟨rfl, h_17⟩ | ⟨rfl, h_17⟩
    · have h_17 : 0 ≤ x1.toInt ∧ x1.toInt ≤ ((k : Int) - 1) := h_17
      refine q_if_ne (u := ((1 : Nat) : Int)) (tgt := 27) hx hb dX4_rebuilt_20 (by decide) (nI_toInt (by omega)) (fun _ => ?_) (fun c_20 => absurd c_20 (by decide))
      have ht_x0 := tn_i (x := x0) (by omega)
      have ht_x1 := tn_i (x := x1) (by omega)
      refine lv_aload_n hx hb dX4_rebuilt_27 rfl (lv_at hl 0 rfl) ?_
      refine lv_iload_n hx hb dX4_rebuilt_28 rfl (lv_at hl 1 rfl) ?_
      refine q_top (show (x0) = nI (tn x0) from tn_I (by omega)) ?_
      have hPc : va_P D vwCl (wM cI cZ am (k) (pat) (dat) (sent) (rc) (los) (wai) (set) (bad) (gon) (rep) (sil) (thr) (na)) s.heap := hP
      refine q_csi (va_runV (As := [.int (nI (tn x0))]) (rest := [.ref (am 0)]) ⟨hx, hb, hml, hown, hts⟩ (c_X4_needOf l D cI cZ cQ cL (am) (k) (pat) (dat) (sent) (rc) (los) (wai) (set) (bad) (gon) (rep) (sil) (thr) (na) (tn x0) s.heap.size (by omega) (hset) (hbk)) (cwV 1 hts gX4_rebuilt_X4_needOf rfl rfl rfl ⟨rfl, hd_X4_needOf⟩ ⟨Nat.le_of_ble_eq_true rfl, Nat.le_of_ble_eq_true rfl⟩) (PW_v (q := (RX4, TX4, 14)) (ci := 3) (q0 := 0) hPc hK hD hN rfl rfl) rfl rfl hl.1 rfl (lv_room (Nat.le_of_ble_eq_true rfl)) dX4_rebuilt_29 ⟨Nat.le_of_ble_eq_true rfl, Nat.le_of_ble_eq_true rfl⟩) (fun r_29 hr_29 => ?_)
      obtain rfl : r_29 = nI (k - pc (set (tn x0))) := hr_29
      refine q_if_le (u := ((k - pc (set (tn x0)) : Nat) : Int)) (tgt := 39) hx hb dX4_rebuilt_32 (by decide) (nI_toInt (by omega)) (fun c_32 => ?_) (fun c_32 => ?_)
      · skip
        refine lv_iconst (v := nI (0)) hx hb dX4_rebuilt_39 (by decide) ?_
        refine va_put (D := D) (ci := 3) (v := .int (nI (0))) (ty := .int) (C := RX4) (T := TX4) (N := 14) hx hb hts iwX4_rebuilt_X4 tyX4 tyX4_ok nmX4 hown hK hP hD hS 0 rfl rfl 12 (by decide) (hts (.fieldLink RX4 39 "RepairSenderModel" "thrown" "I") (List.mem_of_getElem? (i := 2) rfl)) (fun _ h9 => h9) rfl (by decide +kernel) rfl rfl (Nat.le_of_ble_eq_true rfl) dX4_rebuilt_40 (fun H locs hP hD hS => ?_)
        have hP : va_P D vwCl (wM cI cZ am (k) (pat) (dat) (sent) (rc) (los) (wai) (set) (bad) (gon) (rep) (sil) (0) (na)) H := hP
        have hD : va_D A (wM cI cZ am (k) (pat) (dat) (sent) (rc) (los) (wai) (set) (bad) (gon) (rep) (sil) (0) (na)) := hD
        refine lv_aload_n hx hb dX4_rebuilt_43 rfl (lv_at hl 0 rfl) ?_
        refine va_get (D := D) (ci := 3) (v := .int (nI (0))) (C := RX4) (T := TX4) (N := 14) hx hb hts iwX4_rebuilt_X4 hown hK hP 0 rfl rfl 12 (by decide) (hts (.fieldLink RX4 39 "RepairSenderModel" "thrown" "I") (List.mem_of_getElem? (i := 2) rfl)) (fun _ h9 => h9) rfl dX4_rebuilt_44 ?_
        refine q_if_ne (u := ((0 : Nat) : Int)) (tgt := 59) hx hb dX4_rebuilt_47 (by decide) (nI_toInt (by omega)) (fun c_47 => absurd c_47 (by decide)) (fun _ => ?_)
        refine lv_aload_n hx hb dX4_rebuilt_50 rfl (lv_at hl 0 rfl) ?_
        refine va_get (D := D) (ci := 3) (v := .ref (am 1)) (C := RX4) (T := TX4) (N := 14) hx hb hts iwX4_rebuilt_X4 hown hK hP 0 rfl rfl 2 (by decide) (hts (.fieldLink RX4 7 "RepairSenderModel" "data" "[I") (List.mem_of_getElem? (i := 3) rfl)) (fun _ h9 => h9) rfl dX4_rebuilt_51 ?_
        refine lv_iload_n hx hb dX4_rebuilt_54 rfl (lv_at hl 2 rfl) ?_
        refine q_top (show (x1) = nI (tn x1) from tn_I (by omega)) ?_
        refine q_ialdB (f := dat) (j := tn x1) hx hb hK hP 1 0 rfl rfl (by omega) (by decide) dX4_rebuilt_55 ?_
        refine lv_goto (tgt := 60) hx hb dX4_rebuilt_56 (by decide) ?_
        exact W.iret (v := bI (dat (tn x1))) hx hb hr (fun t ht hW => ⟨⟨_, (wM cI cZ am (k) (pat) (dat) (sent) (rc) (los) (wai) (set) (bad) (gon) (rep) (sil) (0) (na)), rfl, (by first | exact Or.inl ⟨rfl, by omega, rfl⟩ | exact Or.inr (Or.inl ⟨rfl, by omega, rfl⟩) | exact Or.inr (Or.inr (⟨rfl, by omega, rfl⟩))), by rw [ht]; exact hP, hD⟩, hS.F ht⟩) hS.2.2 dX4_rebuilt_60
      · skip
        refine lv_iconst (v := nI (2)) hx hb dX4_rebuilt_35 (by decide) ?_
        refine lv_goto (tgt := 40) hx hb dX4_rebuilt_36 (by decide) ?_
        refine va_put (D := D) (ci := 3) (v := .int (nI (2))) (ty := .int) (C := RX4) (T := TX4) (N := 14) hx hb hts iwX4_rebuilt_X4 tyX4 tyX4_ok nmX4 hown hK hP hD hS 0 rfl rfl 12 (by decide) (hts (.fieldLink RX4 39 "RepairSenderModel" "thrown" "I") (List.mem_of_getElem? (i := 2) rfl)) (fun _ h9 => h9) rfl (by decide +kernel) rfl rfl (Nat.le_of_ble_eq_true rfl) dX4_rebuilt_40 (fun H locs hP hD hS => ?_)
        have hP : va_P D vwCl (wM cI cZ am (k) (pat) (dat) (sent) (rc) (los) (wai) (set) (bad) (gon) (rep) (sil) (2) (na)) H := hP
        have hD : va_D A (wM cI cZ am (k) (pat) (dat) (sent) (rc) (los) (wai) (set) (bad) (gon) (rep) (sil) (2) (na)) := hD
        refine lv_aload_n hx hb dX4_rebuilt_43 rfl (lv_at hl 0 rfl) ?_
        refine va_get (D := D) (ci := 3) (v := .int (nI (2))) (C := RX4) (T := TX4) (N := 14) hx hb hts iwX4_rebuilt_X4 hown hK hP 0 rfl rfl 12 (by decide) (hts (.fieldLink RX4 39 "RepairSenderModel" "thrown" "I") (List.mem_of_getElem? (i := 2) rfl)) (fun _ h9 => h9) rfl dX4_rebuilt_44 ?_
        refine q_if_ne (u := ((2 : Nat) : Int)) (tgt := 59) hx hb dX4_rebuilt_47 (by decide) (nI_toInt (by omega)) (fun _ => ?_) (fun c_47 => absurd c_47 (by decide))
        refine lv_iconst (v := nI (0)) hx hb dX4_rebuilt_59 (by decide) ?_
        exact W.iret (v := nI (0)) hx hb hr (fun t ht hW => ⟨⟨_, (wM cI cZ am (k) (pat) (dat) (sent) (rc) (los) (wai) (set) (bad) (gon) (rep) (sil) (2) (na)), rfl, (by first | exact Or.inl ⟨rfl, by omega, rfl⟩ | exact Or.inr (Or.inl ⟨rfl, by omega, rfl⟩) | exact Or.inr (Or.inr (⟨rfl, by omega, rfl⟩))), by rw [ht]; exact hP, hD⟩, hS.F ht⟩) hS.2.2 dX4_rebuilt_60
    · have h_17 : ¬ (0 ≤ x1.toInt ∧ x1.toInt ≤ ((k : Int) - 1)) := h_17
      refine q_if_ne (u := ((0 : Nat) : Int)) (tgt := 27) hx hb dX4_rebuilt_20 (by decide) (nI_toInt (by omega)) (fun c_20 => absurd c_20 (by decide)) (fun _ => ?_)
      refine lv_iconst (v := nI (1)) hx hb dX4_rebuilt_23 (by decide) ?_
      refine lv_goto (tgt := 40) hx hb dX4_rebuilt_24 (by decide) ?_
      refine va_put (D := D) (ci := 3) (v := .int (nI (1))) (ty := .int) (C := RX4) (T := TX4) (N := 14) hx hb hts iwX4_rebuilt_X4 tyX4 tyX4_ok nmX4 hown hK hP hD hS 0 rfl rfl 12 (by decide) (hts (.fieldLink RX4 39 "RepairSenderModel" "thrown" "I") (List.mem_of_getElem? (i := 2) rfl)) (fun _ h9 => h9) rfl (by decide +kernel) rfl rfl (Nat.le_of_ble_eq_true rfl) dX4_rebuilt_40 (fun H locs hP hD hS => ?_)
      have hP : va_P D vwCl (wM cI cZ am (k) (pat) (dat) (sent) (rc) (los) (wai) (set) (bad) (gon) (rep) (sil) (1) (na)) H := hP
      have hD : va_D A (wM cI cZ am (k) (pat) (dat) (sent) (rc) (los) (wai) (set) (bad) (gon) (rep) (sil) (1) (na)) := hD
      refine lv_aload_n hx hb dX4_rebuilt_43 rfl (lv_at hl 0 rfl) ?_
      refine va_get (D := D) (ci := 3) (v := .int (nI (1))) (C := RX4) (T := TX4) (N := 14) hx hb hts iwX4_rebuilt_X4 hown hK hP 0 rfl rfl 12 (by decide) (hts (.fieldLink RX4 39 "RepairSenderModel" "thrown" "I") (List.mem_of_getElem? (i := 2) rfl)) (fun _ h9 => h9) rfl dX4_rebuilt_44 ?_
      refine q_if_ne (u := ((1 : Nat) : Int)) (tgt := 59) hx hb dX4_rebuilt_47 (by decide) (nI_toInt (by omega)) (fun _ => ?_) (fun c_47 => absurd c_47 (by decide))
      refine lv_iconst (v := nI (0)) hx hb dX4_rebuilt_59 (by decide) ?_
      exact W.iret (v := nI (0)) hx hb hr (fun t ht hW => ⟨⟨_, (wM cI cZ am (k) (pat) (dat) (sent) (rc) (los) (wai) (set) (bad) (gon) (rep) (sil) (1) (na)), rfl, (by first | exact Or.inl ⟨rfl, by omega, rfl⟩ | exact Or.inr (Or.inl ⟨rfl, by omega, rfl⟩) | exact Or.inr (Or.inr (⟨rfl, by omega, rfl⟩))), by rw [ht]; exact hP, hD⟩, hS.F ht⟩) hS.2.2 dX4_rebuilt_60
  · have h_3 : ¬ (0 ≤ x0.toInt ∧ x0.toInt < rc) := h_3
    refine q_if_eq (u := ((0 : Nat) : Int)) (tgt := 23) hx hb dX4_rebuilt_6 (by decide) (nI_toInt (by omega)) (fun _ => ?_) (fun c_6 => absurd c_6 (by decide))
    refine lv_iconst (v := nI (1)) hx hb dX4_rebuilt_23 (by decide) ?_
    refine lv_goto (tgt := 40) hx hb dX4_rebuilt_24 (by decide) ?_
    refine va_put (D := D) (ci := 3) (v := .int (nI (1))) (ty := .int) (C := RX4) (T := TX4) (N := 14) hx hb hts iwX4_rebuilt_X4 tyX4 tyX4_ok nmX4 hown hK hP hD hS 0 rfl rfl 12 (by decide) (hts (.fieldLink RX4 39 "RepairSenderModel" "thrown" "I") (List.mem_of_getElem? (i := 2) rfl)) (fun _ h9 => h9) rfl (by decide +kernel) rfl rfl (Nat.le_of_ble_eq_true rfl) dX4_rebuilt_40 (fun H locs hP hD hS => ?_)
    have hP : va_P D vwCl (wM cI cZ am (k) (pat) (dat) (sent) (rc) (los) (wai) (set) (bad) (gon) (rep) (sil) (1) (na)) H := hP
    have hD : va_D A (wM cI cZ am (k) (pat) (dat) (sent) (rc) (los) (wai) (set) (bad) (gon) (rep) (sil) (1) (na)) := hD
    refine lv_aload_n hx hb dX4_rebuilt_43 rfl (lv_at hl 0 rfl) ?_
    refine va_get (D := D) (ci := 3) (v := .int (nI (1))) (C := RX4) (T := TX4) (N := 14) hx hb hts iwX4_rebuilt_X4 hown hK hP 0 rfl rfl 12 (by decide) (hts (.fieldLink RX4 39 "RepairSenderModel" "thrown" "I") (List.mem_of_getElem? (i := 2) rfl)) (fun _ h9 => h9) rfl dX4_rebuilt_44 ?_
    refine q_if_ne (u := ((1 : Nat) : Int)) (tgt := 59) hx hb dX4_rebuilt_47 (by decide) (nI_toInt (by omega)) (fun _ => ?_) (fun c_47 => absurd c_47 (by decide))
    refine lv_iconst (v := nI (0)) hx hb dX4_rebuilt_59 (by decide) ?_
    exact W.iret (v := nI (0)) hx hb hr (fun t ht hW => ⟨⟨_, (wM cI cZ am (k) (pat) (dat) (sent) (rc) (los) (wai) (set) (bad) (gon) (rep) (sil) (1) (na)), rfl, (by first | exact Or.inl ⟨rfl, by omega, rfl⟩ | exact Or.inr (Or.inl ⟨rfl, by omega, rfl⟩) | exact Or.inr (Or.inr (⟨rfl, by omega, rfl⟩))), by rw [ht]; exact hP, hD⟩, hS.F ht⟩) hS.2.2 dX4_rebuilt_60

set_option maxHeartbeats 4000000 in
set_option maxRecDepth 100000 in
theorem c_X4_rebuiltByElimination (l : Launch) (D : va_G) (cI cZ cQ cL : ClassId) (am : Nat → Nat) (k : Nat) (pat : Nat) (dat : Nat → B8) (sent : Nat) (rc : Nat) (los : Nat → Nat) (wai : Nat → Nat) (set : Nat → Nat) (bad : Nat → Nat) (gon : Nat → Nat) (rep : Nat) (sil : Nat) (thr : Nat) (na : Nat → Nat) (x0 : Int32) (x1 : Int32) (sz : Nat) (hrc : rc ≤ 6) (hset : ∀ r, r < 6 → set r < 65536) (hbk : k ≤ 8) : Met l yX4_rebuiltByElimination wsX4_rebuiltByElimination ({ frames := 3, cells := 0, slots := 0, locals := 65 } : Room) (PW D (TY cI cZ cQ cL) (wM cI cZ am (k) (pat) (dat) (sent) (rc) (los) (wai) (set) (bad) (gon) (rep) (sil) (thr) (na)) sz [.ref (am 0), .int (x0), .int (x1)]) (QI D (va_A (wM cI cZ am (k) (pat) (dat) (sent) (rc) (los) (wai) (set) (bad) (gon) (rep) (sil) (thr) (na)) sz) (fun z9 (u9 : va_W) => (z9 = bI (dat (tn x1)) ∧ ((0 ≤ x0.toInt ∧ x0.toInt < rc) ∧ (0 ≤ x1.toInt ∧ x1.toInt < k) ∧ k ≤ pc (set (tn x0))) ∧ u9 = (wM cI cZ am (k) (pat) (dat) (sent) (rc) (los) (wai) (set) (bad) (gon) (rep) (sil) (0) (na))) ∨ (z9 = nI (0) ∧ (¬ ((0 ≤ x0.toInt ∧ x0.toInt < rc) ∧ (0 ≤ x1.toInt ∧ x1.toInt < k))) ∧ u9 = (wM cI cZ am (k) (pat) (dat) (sent) (rc) (los) (wai) (set) (bad) (gon) (rep) (sil) (1) (na))) ∨ (z9 = nI (0) ∧ (((0 ≤ x0.toInt ∧ x0.toInt < rc) ∧ (0 ≤ x1.toInt ∧ x1.toInt < k)) ∧ ¬ (k ≤ pc (set (tn x0)))) ∧ u9 = (wM cI cZ am (k) (pat) (dat) (sent) (rc) (los) (wai) (set) (bad) (gon) (rep) (sil) (2) (na)))) (fun u9 => u9)) 0 0 (va_A (wM cI cZ am (k) (pat) (dat) (sent) (rc) (los) (wai) (set) (bad) (gon) (rep) (sil) (thr) (na)) sz) := by
  refine Met.ofW (cc := cX4_rebuiltByElimination) (maxL := 3) (ret := (some .int)) (by decide) rfl ?_
  intro p e s m args below meth c s₁ B hml hv
  obtain ⟨rfl, hsz, hP, hK, hD0, hN⟩ := hv
  have hx := B.exec
  have hb := B.bytes
  have hr := B.returns
  have hts := atoms_spec (ws := wsX4_rebuiltByElimination) B.pre
  have hown : s.vm.findClass RX4 = some m.cls := findClass_of_methodNamed B.named
  have hlocks := B.notSynchronized
  subst hsz
  have hD := hD0.self (sz := s.heap.size)
  generalize hAe : va_A (wM cI cZ am (k) (pat) (dat) (sent) (rc) (los) (wai) (set) (bad) (gon) (rep) (sil) (thr) (na)) s.heap.size = A at hD ⊢
  have hA : ∀ q : Nat, s.heap.size ≤ q → A q := fun q h => by rw [← hAe]; exact Or.inr h
  have hS : va_S A s.heap s.heap [] := va_S.rf
  have hl := lv_entry ([.ref (am 0), .int (x0), .int (x1)]) (n := 3) (Nat.le_of_ble_eq_true rfl)
  rw [lg_entry_eq]
  generalize (lg_sl ([.ref (am 0), .int (x0), .int (x1)]) ++ List.replicate (3 - (lg_sl ([.ref (am 0), .int (x0), .int (x1)])).length) Slot.unset).toArray = ls at hl ⊢
  have hl : lv_has ls 3 [(0, .ref (am 0)), (1, .int (x0)), (2, .int (x1))] := hl
  refine lv_aload_n hx hb dX4_rebuiltByElimination_0 rfl (lv_at hl 0 rfl) ?_
  refine lv_iload_n hx hb dX4_rebuiltByElimination_1 rfl (lv_at hl 1 rfl) ?_
  refine lv_iload_n hx hb dX4_rebuiltByElimination_2 rfl (lv_at hl 2 rfl) ?_
  have hPc : va_P D vwCl (wM cI cZ am (k) (pat) (dat) (sent) (rc) (los) (wai) (set) (bad) (gon) (rep) (sil) (thr) (na)) s.heap := hP
  refine q_ci (wc := (wM cI cZ am (k) (pat) (dat) (sent) (rc) (los) (wai) (set) (bad) (gon) (rep) (sil) (thr) (na))) (wr := []) (w1 := fun u9 => u9) (va_runV (As := [.int (x0), .int (x1)]) (rest := []) ⟨hx, hb, hml, hown, hts⟩ (c_X4_rebuilt l D cI cZ cQ cL (am) (k) (pat) (dat) (sent) (rc) (los) (wai) (set) (bad) (gon) (rep) (sil) (thr) (na) (x0) (x1) s.heap.size (hrc) (hset) (hbk)) (cwV 2 hts gX4_rebuiltByElimination_X4_rebuilt rfl rfl rfl ⟨rfl, hd_X4_rebuilt⟩ ⟨Nat.le_of_ble_eq_true rfl, Nat.le_of_ble_eq_true rfl⟩) (PW_v (q := (RX4, TX4, 14)) (ci := 3) (q0 := 0) hPc hK hD hN rfl rfl) rfl rfl hl.1 rfl (lv_room (Nat.le_of_ble_eq_true rfl)) dX4_rebuiltByElimination_3 ⟨Nat.le_of_ble_eq_true rfl, Nat.le_of_ble_eq_true rfl⟩) hP hD hS hA [0, 1, 2, 3, 4, 5, 6, 7] [] rfl rfl (by decide) (by decide) (fun r_3 u_3 H locs h_3 hP hD hS => ?_)
  rcases h_3 with ⟨rfl, h_3, rfl⟩ | ⟨rfl, h_3, rfl⟩ | ⟨rfl, h_3, rfl⟩
  · have h_3 : (0 ≤ x0.toInt ∧ x0.toInt < rc) ∧ (0 ≤ x1.toInt ∧ x1.toInt < k) ∧ k ≤ pc (set (tn x0)) := h_3
    have hP : va_P D vwCl (wM cI cZ am (k) (pat) (dat) (sent) (rc) (los) (wai) (set) (bad) (gon) (rep) (sil) (0) (na)) H := hP
    have hD : va_D A (wM cI cZ am (k) (pat) (dat) (sent) (rc) (los) (wai) (set) (bad) (gon) (rep) (sil) (0) (na)) := hD
    exact W.iret (v := bI (dat (tn x1))) hx hb hr (fun t ht hW => ⟨⟨_, (wM cI cZ am (k) (pat) (dat) (sent) (rc) (los) (wai) (set) (bad) (gon) (rep) (sil) (0) (na)), rfl, (by first | exact Or.inl ⟨rfl, h_3, rfl⟩ | exact Or.inr (Or.inl ⟨rfl, h_3, rfl⟩) | exact Or.inr (Or.inr ⟨rfl, h_3, rfl⟩)), by rw [ht]; exact hP, hD⟩, hS.F ht⟩) hS.2.2 dX4_rebuiltByElimination_6
  · have h_3 : ¬ ((0 ≤ x0.toInt ∧ x0.toInt < rc) ∧ (0 ≤ x1.toInt ∧ x1.toInt < k)) := h_3
    have hP : va_P D vwCl (wM cI cZ am (k) (pat) (dat) (sent) (rc) (los) (wai) (set) (bad) (gon) (rep) (sil) (1) (na)) H := hP
    have hD : va_D A (wM cI cZ am (k) (pat) (dat) (sent) (rc) (los) (wai) (set) (bad) (gon) (rep) (sil) (1) (na)) := hD
    exact W.iret (v := nI (0)) hx hb hr (fun t ht hW => ⟨⟨_, (wM cI cZ am (k) (pat) (dat) (sent) (rc) (los) (wai) (set) (bad) (gon) (rep) (sil) (1) (na)), rfl, (by first | exact Or.inl ⟨rfl, h_3, rfl⟩ | exact Or.inr (Or.inl ⟨rfl, h_3, rfl⟩) | exact Or.inr (Or.inr ⟨rfl, h_3, rfl⟩)), by rw [ht]; exact hP, hD⟩, hS.F ht⟩) hS.2.2 dX4_rebuiltByElimination_6
  · have h_3 : ((0 ≤ x0.toInt ∧ x0.toInt < rc) ∧ (0 ≤ x1.toInt ∧ x1.toInt < k)) ∧ ¬ (k ≤ pc (set (tn x0))) := h_3
    have hP : va_P D vwCl (wM cI cZ am (k) (pat) (dat) (sent) (rc) (los) (wai) (set) (bad) (gon) (rep) (sil) (2) (na)) H := hP
    have hD : va_D A (wM cI cZ am (k) (pat) (dat) (sent) (rc) (los) (wai) (set) (bad) (gon) (rep) (sil) (2) (na)) := hD
    exact W.iret (v := nI (0)) hx hb hr (fun t ht hW => ⟨⟨_, (wM cI cZ am (k) (pat) (dat) (sent) (rc) (los) (wai) (set) (bad) (gon) (rep) (sil) (2) (na)), rfl, (by first | exact Or.inl ⟨rfl, h_3, rfl⟩ | exact Or.inr (Or.inl ⟨rfl, h_3, rfl⟩) | exact Or.inr (Or.inr ⟨rfl, h_3, rfl⟩)), by rw [ht]; exact hP, hD⟩, hS.F ht⟩) hS.2.2 dX4_rebuiltByElimination_6
