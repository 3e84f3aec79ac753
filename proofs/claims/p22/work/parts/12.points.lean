set_option maxHeartbeats 4000000 in
set_option maxRecDepth 100000 in
theorem c_X1_product (l : Launch) (a : B8) (b : B8) : Met l yX1_product wsX1_product ({ frames := 0, cells := 0, slots := 0, locals := 0 } : Room) (P0 [.int (bI (a)), .int (bI (b))]) (vp_Si (fun r => r = bI (fm a b))) 0 0 (fun _ => False) := by
  refine Met.ofW (cc := cX1_product) (maxL := 5) (ret := (some .int)) (by decide) rfl ?_
  intro p e s m args below meth c s₁ B hml hv
  obtain ⟨rfl, -⟩ := hv
  have hx := B.exec
  have hb := B.bytes
  have hr := B.returns
  have hts := atoms_spec (ws := wsX1_product) B.pre
  have hown : s.vm.findClass RX1 = some m.cls := findClass_of_methodNamed B.named
  have hlocks := B.notSynchronized
  have hl := lv_entry ([.int (bI (a)), .int (bI (b))]) (n := 5) (Nat.le_of_ble_eq_true rfl)
  rw [lg_entry_eq]
  generalize (lg_sl ([.int (bI (a)), .int (bI (b))]) ++ List.replicate (5 - (lg_sl ([.int (bI (a)), .int (bI (b))])).length) Slot.unset).toArray = ls at hl ⊢
  have hl : lv_has ls 5 [(0, .int (bI (a))), (1, .int (bI (b)))] := hl
  refine lv_iconst (v := nI (0)) hx hb dX1_product_0 (by decide) ?_
  refine lv_istore_n (lv' := [(2, .int (nI (0))), (0, .int (bI (a))), (1, .int (bI (b)))]) hx hb dX1_product_1 rfl hl (by decide) rfl (fun ls hl => ?_)
  refine lv_iload_n hx hb dX1_product_2 rfl (lv_at hl 1 rfl) ?_
  refine lv_istore_n (lv' := [(3, .int (bI (a))), (2, .int (nI (0))), (0, .int (bI (a))), (1, .int (bI (b)))]) hx hb dX1_product_3 rfl hl (by decide) rfl (fun ls hl => ?_)
  refine lv_iconst (v := nI (0)) hx hb dX1_product_4 (by decide) ?_
  refine lv_istore (lv' := [(4, .int (nI (0))), (3, .int (bI (a))), (2, .int (nI (0))), (0, .int (bI (a))), (1, .int (bI (b)))]) hx hb dX1_product_5 hl (by decide) rfl (fun ls hl => ?_)
  have L7_1 : ∀ (n7_1 : Nat) (i : Nat), 8 - i < n7_1 → (i ≤ 8) → ∀ (ls : Array Slot), lv_has ls 5 [(0, .int (bI (a))), (1, .int (bI (b))), (2, .int (nI (gsu a.toNat b.toNat i))), (3, .int (nI (gsh a.toNat i))), (4, .int (nI (i)))] → W p l e (headSpec wsX1_product ({ frames := 0, cells := 0, slots := 0, locals := 0 } : Room)).room s m ([.int (bI (a)), .int (bI (b))] : List Value).toArray below meth c s.heap [] 0 0 (MQ below (vp_Si (fun r => r = bI (fm a b))) ([.int (bI (a)), .int (bI (b))] : List Value).toArray s 0 0 (fun _ => False)) (F0 m 7 ls []) := by
    intro n7_1
    induction n7_1 with
    | zero =>
      intro i hn7_1
      exact absurd hn7_1 (Nat.not_lt_zero _)
    | succ n7_1 ih7_1 =>
      intro i hn7_1 hi ls hl
      refine lv_iload hx hb dX1_product_7 (lv_at hl 4 rfl) ?_
      refine lv_bipush (v := nI (8)) hx hb dX1_product_9 (by decide) ?_
      refine q_icmp_ge (u := ((i : Nat) : Int)) (v := ((8 : Nat) : Int)) (tgt := 50) hx hb dX1_product_11 (by decide) (nI_toInt (by omega)) (nI_toInt (by omega)) (fun c_11 => ?_) (fun c_11 => ?_)
      · obtain rfl : 8 = i := by omega
        refine lv_iload_n hx hb dX1_product_50 rfl (lv_at hl 2 rfl) ?_
        exact W.iret (v := nI (gsu a.toNat b.toNat 8)) hx hb hr (fun t ht hW => ⟨_, rfl, (by show nI _ = bI _; unfold bI; rw [fm_nat]), ht⟩) (fun q h => by cases h) dX1_product_51
      · skip
        have hsh := gsh_lt (bI_lt a) i
        refine lv_iload_n hx hb dX1_product_14 rfl (lv_at hl 1 rfl) ?_
        refine lv_iload hx hb dX1_product_15 (lv_at hl 4 rfl) ?_
        refine lv_ishr hx hb dX1_product_17 ?_
        refine q_top (show (bI (b) >>> (nI (i) &&& 31)) = nI (((b).toNat) / 2 ^ (i)) from nI_shr (by have := bI_lt b; omega) (by omega)) ?_
        refine lv_iconst (v := nI (1)) hx hb dX1_product_18 (by decide) ?_
        refine lv_iand hx hb dX1_product_19 ?_
        refine q_top (show (nI (((b).toNat) / 2 ^ (i)) &&& nI (1)) = nI ((((b).toNat) / 2 ^ (i)) % 2) from nI_and1 _) ?_
        refine q_if_eq (u := (((((b).toNat) / 2 ^ (i)) % 2 : Nat) : Int)) (tgt := 27) hx hb dX1_product_20 (by decide) (nI_toInt (by omega)) (fun c_20 => ?_) (fun c_20 => ?_)
        · have e2 : gsu a.toNat b.toNat (i + 1) = gsu a.toNat b.toNat i := if_neg (by omega)
          refine lv_iload_n hx hb dX1_product_27 rfl (lv_at hl 3 rfl) ?_
          refine lv_iconst (v := nI (1)) hx hb dX1_product_28 (by decide) ?_
          refine lv_ishl hx hb dX1_product_29 ?_
          refine q_top (show (nI (gsh a.toNat i) <<< (nI (1) &&& 31)) = nI ((gsh a.toNat i) * 2) from nI_shl1 (by omega)) ?_
          refine lv_istore_n (lv' := [(3, .int (nI ((gsh a.toNat i) * 2))), (0, .int (bI (a))), (1, .int (bI (b))), (2, .int (nI (gsu a.toNat b.toNat i))), (4, .int (nI (i)))]) hx hb dX1_product_30 rfl hl (by decide) rfl (fun ls hl => ?_)
          refine lv_iload_n hx hb dX1_product_31 rfl (lv_at hl 0 rfl) ?_
          refine lv_sipush (v := nI (255)) hx hb dX1_product_32 (by decide) ?_
          refine q_icmp_le (u := (((gsh a.toNat i) * 2 : Nat) : Int)) (v := ((255 : Nat) : Int)) (tgt := 44) hx hb dX1_product_35 (by decide) (nI_toInt (by omega)) (nI_toInt (by omega)) (fun c_35 => ?_) (fun c_35 => ?_)
          · have e3 : gsh a.toNat (i + 1) = (gsh a.toNat i) * 2 := if_neg (by omega)
            refine lv_iinc (v := nI (i + 1)) (lv' := [(4, .int (nI (i + 1))), (3, .int (nI ((gsh a.toNat i) * 2))), (0, .int (bI (a))), (1, .int (bI (b))), (2, .int (nI (gsu a.toNat b.toNat i)))]) hx hb dX1_product_44 hl (k := 4) rfl (show nI (i) + Int32.ofInt 1 = nI (i + 1) from nI_add (i) 1) (by decide) rfl (fun ls hl => ?_)
            refine lv_goto (tgt := 7) hx hb dX1_product_47 (by decide) ?_
            exact ih7_1 (i + 1) (by omega) (by omega) ls (lv_sub hl [2, 3, 4, 1, 0] (by rw [e2, e3]; rfl))
          · have e3 : gsh a.toNat (i + 1) = ((gsh a.toNat i) * 2) ^^^ 285 := if_pos (by omega)
            refine lv_iload_n hx hb dX1_product_38 rfl (lv_at hl 0 rfl) ?_
            refine lv_sipush (v := nI (285)) hx hb dX1_product_39 (by decide) ?_
            refine lv_ixor hx hb dX1_product_42 ?_
            refine q_top (show (nI ((gsh a.toNat i) * 2) ^^^ nI (285)) = nI (((gsh a.toNat i) * 2) ^^^ (285)) from nI_xor _ _) ?_
            refine lv_istore_n (lv' := [(3, .int (nI (((gsh a.toNat i) * 2) ^^^ (285)))), (0, .int (bI (a))), (1, .int (bI (b))), (2, .int (nI (gsu a.toNat b.toNat i))), (4, .int (nI (i)))]) hx hb dX1_product_43 rfl hl (by decide) rfl (fun ls hl => ?_)
            refine lv_iinc (v := nI (i + 1)) (lv' := [(4, .int (nI (i + 1))), (3, .int (nI (((gsh a.toNat i) * 2) ^^^ (285)))), (0, .int (bI (a))), (1, .int (bI (b))), (2, .int (nI (gsu a.toNat b.toNat i)))]) hx hb dX1_product_44 hl (k := 4) rfl (show nI (i) + Int32.ofInt 1 = nI (i + 1) from nI_add (i) 1) (by decide) rfl (fun ls hl => ?_)
            refine lv_goto (tgt := 7) hx hb dX1_product_47 (by decide) ?_
            exact ih7_1 (i + 1) (by omega) (by omega) ls (lv_sub hl [2, 3, 4, 1, 0] (by rw [e2, e3]; rfl))
        · have e2 : gsu a.toNat b.toNat (i + 1) = (gsu a.toNat b.toNat i) ^^^ (gsh a.toNat i) := if_pos (by omega)
          refine lv_iload_n hx hb dX1_product_23 rfl (lv_at hl 2 rfl) ?_
          refine lv_iload_n hx hb dX1_product_24 rfl (lv_at hl 3 rfl) ?_
          refine lv_ixor hx hb dX1_product_25 ?_
          refine q_top (show (nI (gsu a.toNat b.toNat i) ^^^ nI (gsh a.toNat i)) = nI ((gsu a.toNat b.toNat i) ^^^ (gsh a.toNat i)) from nI_xor _ _) ?_
          refine lv_istore_n (lv' := [(2, .int (nI ((gsu a.toNat b.toNat i) ^^^ (gsh a.toNat i)))), (0, .int (bI (a))), (1, .int (bI (b))), (3, .int (nI (gsh a.toNat i))), (4, .int (nI (i)))]) hx hb dX1_product_26 rfl hl (by decide) rfl (fun ls hl => ?_)
          refine lv_iload_n hx hb dX1_product_27 rfl (lv_at hl 3 rfl) ?_
          refine lv_iconst (v := nI (1)) hx hb dX1_product_28 (by decide) ?_
          refine lv_ishl hx hb dX1_product_29 ?_
          refine q_top (show (nI (gsh a.toNat i) <<< (nI (1) &&& 31)) = nI ((gsh a.toNat i) * 2) from nI_shl1 (by omega)) ?_
          refine lv_istore_n (lv' := [(3, .int (nI ((gsh a.toNat i) * 2))), (2, .int (nI ((gsu a.toNat b.toNat i) ^^^ (gsh a.toNat i)))), (0, .int (bI (a))), (1, .int (bI (b))), (4, .int (nI (i)))]) hx hb dX1_product_30 rfl hl (by decide) rfl (fun ls hl => ?_)
          refine lv_iload_n hx hb dX1_product_31 rfl (lv_at hl 0 rfl) ?_
          refine lv_sipush (v := nI (255)) hx hb dX1_product_32 (by decide) ?_
          refine q_icmp_le (u := (((gsh a.toNat i) * 2 : Nat) : Int)) (v := ((255 : Nat) : Int)) (tgt := 44) hx hb dX1_product_35 (by decide) (nI_toInt (by omega)) (nI_toInt (by omega)) (fun c_35 => ?_) (fun c_35 => ?_)
          · have e3 : gsh a.toNat (i + 1) = (gsh a.toNat i) * 2 := if_neg (by omega)
            refine lv_iinc (v := nI (i + 1)) (lv' := [(4, .int (nI (i + 1))), (3, .int (nI ((gsh a.toNat i) * 2))), (2, .int (nI ((gsu a.toNat b.toNat i) ^^^ (gsh a.toNat i)))), (0, .int (bI (a))), (1, .int (bI (b)))]) hx hb dX1_product_44 hl (k := 4) rfl (show nI (i) + Int32.ofInt 1 = nI (i + 1) from nI_add (i) 1) (by decide) rfl (fun ls hl => ?_)
            refine lv_goto (tgt := 7) hx hb dX1_product_47 (by decide) ?_
            exact ih7_1 (i + 1) (by omega) (by omega) ls (lv_sub hl [3, 4, 2, 1, 0] (by rw [e2, e3]; rfl))
          · have e3 : gsh a.toNat (i + 1) = ((gsh a.toNat i) * 2) ^^^ 285 := if_pos (by omega)
            refine lv_iload_n hx hb dX1_product_38 rfl (lv_at hl 0 rfl) ?_
            refine lv_sipush (v := nI (285)) hx hb dX1_product_39 (by decide) ?_
            refine lv_ixor hx hb dX1_product_42 ?_
            refine q_top (show (nI ((gsh a.toNat i) * 2) ^^^ nI (285)) = nI (((gsh a.toNat i) * 2) ^^^ (285)) from nI_xor _ _) ?_
            refine lv_istore_n (lv' := [(3, .int (nI (((gsh a.toNat i) * 2) ^^^ (285)))), (2, .int (nI ((gsu a.toNat b.toNat i) ^^^ (gsh a.toNat i)))), (0, .int (bI (a))), (1, .int (bI (b))), (4, .int (nI (i)))]) hx hb dX1_product_43 rfl hl (by decide) rfl (fun ls hl => ?_)
            refine lv_iinc (v := nI (i + 1)) (lv' := [(4, .int (nI (i + 1))), (3, .int (nI (((gsh a.toNat i) * 2) ^^^ (285)))), (2, .int (nI ((gsu a.toNat b.toNat i) ^^^ (gsh a.toNat i)))), (0, .int (bI (a))), (1, .int (bI (b)))]) hx hb dX1_product_44 hl (k := 4) rfl (show nI (i) + Int32.ofInt 1 = nI (i + 1) from nI_add (i) 1) (by decide) rfl (fun ls hl => ?_)
            refine lv_goto (tgt := 7) hx hb dX1_product_47 (by decide) ?_
            exact ih7_1 (i + 1) (by omega) (by omega) ls (lv_sub hl [3, 4, 2, 1, 0] (by rw [e2, e3]; rfl))
  exact L7_1 _ (0) (Nat.lt_succ_self _) (by omega) ls (lv_sub hl [3, 4, 2, 1, 0] rfl)

set_option maxHeartbeats 4000000 in
set_option maxRecDepth 100000 in
theorem c_X1_inverse (l : Launch) (a : B8) : Met l yX1_inverse wsX1_inverse ({ frames := 1, cells := 0, slots := 0, locals := 24 } : Room) (P0 [.int (bI (a))]) (vp_Si (fun r => r = bI (finv a))) 0 0 (fun _ => False) := by
  refine Met.ofW (cc := cX1_inverse) (maxL := 4) (ret := (some .int)) (by decide) rfl ?_
  intro p e s m args below meth c s₁ B hml hv
  obtain ⟨rfl, -⟩ := hv
  have hx := B.exec
  have hb := B.bytes
  have hr := B.returns
  have hts := atoms_spec (ws := wsX1_inverse) B.pre
  have hown : s.vm.findClass RX1 = some m.cls := findClass_of_methodNamed B.named
  have hlocks := B.notSynchronized
  have hl := lv_entry ([.int (bI (a))]) (n := 4) (Nat.le_of_ble_eq_true rfl)
  rw [lg_entry_eq]
  generalize (lg_sl ([.int (bI (a))]) ++ List.replicate (4 - (lg_sl ([.int (bI (a))])).length) Slot.unset).toArray = ls at hl ⊢
  have hl : lv_has ls 4 [(0, .int (bI (a)))] := hl
  refine lv_iconst (v := nI (1)) hx hb dX1_inverse_0 (by decide) ?_
  refine lv_istore_n (lv' := [(1, .int (nI (1))), (0, .int (bI (a)))]) hx hb dX1_inverse_1 rfl hl (by decide) rfl (fun ls hl => ?_)
  refine lv_iload_n hx hb dX1_inverse_2 rfl (lv_at hl 1 rfl) ?_
  refine lv_istore_n (lv' := [(2, .int (bI (a))), (1, .int (nI (1))), (0, .int (bI (a)))]) hx hb dX1_inverse_3 rfl hl (by decide) rfl (fun ls hl => ?_)
  refine lv_iconst (v := nI (1)) hx hb dX1_inverse_4 (by decide) ?_
  refine lv_istore_n (lv' := [(3, .int (nI (1))), (2, .int (bI (a))), (1, .int (nI (1))), (0, .int (bI (a)))]) hx hb dX1_inverse_5 rfl hl (by decide) rfl (fun ls hl => ?_)
  have L6_1 : ∀ (n6_1 : Nat) (j : Nat), 8 - j < n6_1 → (j ≤ 7) → ∀ (ls : Array Slot), lv_has ls 4 [(0, .int (bI (a))), (1, .int (bI ((fps a j).1))), (2, .int (bI ((fps a j).2))), (3, .int (nI (j + 1)))] → W p l e (headSpec wsX1_inverse ({ frames := 1, cells := 0, slots := 0, locals := 24 } : Room)).room s m ([.int (bI (a))] : List Value).toArray below meth c s.heap [] 0 0 (MQ below (vp_Si (fun r => r = bI (finv a))) ([.int (bI (a))] : List Value).toArray s 0 0 (fun _ => False)) (F0 m 6 ls []) := by
    intro n6_1
    induction n6_1 with
    | zero =>
      intro j hn6_1
      exact absurd hn6_1 (Nat.not_lt_zero _)
    | succ n6_1 ih6_1 =>
      intro j hn6_1 hj ls hl
      refine lv_iload_n hx hb dX1_inverse_6 rfl (lv_at hl 3 rfl) ?_
      refine lv_bipush (v := nI (8)) hx hb dX1_inverse_7 (by decide) ?_
      refine q_icmp_ge (u := ((j + 1 : Nat) : Int)) (v := ((8 : Nat) : Int)) (tgt := 30) hx hb dX1_inverse_9 (by decide) (nI_toInt (by omega)) (nI_toInt (by omega)) (fun c_9 => ?_) (fun c_9 => ?_)
      · obtain rfl : 7 = j := by omega
        refine lv_iload_n hx hb dX1_inverse_30 rfl (lv_at hl 1 rfl) ?_
        exact W.iret (v := bI ((fps a 7).1)) hx hb hr (fun t ht hW => ⟨_, rfl, (by rfl), ht⟩) (fun q h => by cases h) dX1_inverse_31
      · skip
        refine lv_iload_n hx hb dX1_inverse_12 rfl (lv_at hl 2 rfl) ?_
        refine lv_iload_n hx hb dX1_inverse_13 rfl (lv_at hl 2 rfl) ?_
        refine q_csi (va_runS (As := [.int (bI ((fps a j).2)), .int (bI ((fps a j).2))]) (rest := []) ⟨hx, hb, hml, hown, hts⟩ (c_X1_product l ((fps a j).2) ((fps a j).2) ) (va_cwS 2 hts gX1_inverse_X1_product rfl rfl rfl hd_X1_product ⟨Nat.le_of_ble_eq_true rfl, Nat.le_of_ble_eq_true rfl⟩) P0_s rfl rfl hl.1 rfl (lv_room (Nat.le_of_ble_eq_true rfl)) dX1_inverse_14 ⟨Nat.le_of_ble_eq_true rfl, Nat.le_of_ble_eq_true rfl⟩) (fun r_14 hr_14 => ?_)
        obtain rfl : r_14 = bI (fm ((fps a j).2) ((fps a j).2)) := hr_14
        refine lv_istore_n (lv' := [(2, .int (bI (fm ((fps a j).2) ((fps a j).2)))), (0, .int (bI (a))), (1, .int (bI ((fps a j).1))), (3, .int (nI (j + 1)))]) hx hb dX1_inverse_17 rfl hl (by decide) rfl (fun ls hl => ?_)
        refine lv_iload_n hx hb dX1_inverse_18 rfl (lv_at hl 2 rfl) ?_
        refine lv_iload_n hx hb dX1_inverse_19 rfl (lv_at hl 0 rfl) ?_
        refine q_csi (va_runS (As := [.int (bI ((fps a j).1)), .int (bI (fm ((fps a j).2) ((fps a j).2)))]) (rest := []) ⟨hx, hb, hml, hown, hts⟩ (c_X1_product l ((fps a j).1) (fm (fps a j).2 (fps a j).2) ) (va_cwS 2 hts gX1_inverse_X1_product rfl rfl rfl hd_X1_product ⟨Nat.le_of_ble_eq_true rfl, Nat.le_of_ble_eq_true rfl⟩) P0_s rfl rfl hl.1 rfl (lv_room (Nat.le_of_ble_eq_true rfl)) dX1_inverse_20 ⟨Nat.le_of_ble_eq_true rfl, Nat.le_of_ble_eq_true rfl⟩) (fun r_20 hr_20 => ?_)
        obtain rfl : r_20 = bI (fm ((fps a j).1) (fm (fps a j).2 (fps a j).2)) := hr_20
        refine lv_istore_n (lv' := [(1, .int (bI (fm ((fps a j).1) (fm (fps a j).2 (fps a j).2)))), (2, .int (bI (fm ((fps a j).2) ((fps a j).2)))), (0, .int (bI (a))), (3, .int (nI (j + 1)))]) hx hb dX1_inverse_23 rfl hl (by decide) rfl (fun ls hl => ?_)
        refine lv_iinc (v := nI (j + 1 + 1)) (lv' := [(3, .int (nI (j + 1 + 1))), (1, .int (bI (fm ((fps a j).1) (fm (fps a j).2 (fps a j).2)))), (2, .int (bI (fm ((fps a j).2) ((fps a j).2)))), (0, .int (bI (a)))]) hx hb dX1_inverse_24 hl (k := 3) rfl (show nI (j + 1) + Int32.ofInt 1 = nI (j + 1 + 1) from nI_add (j + 1) 1) (by decide) rfl (fun ls hl => ?_)
        refine lv_goto (tgt := 6) hx hb dX1_inverse_27 (by decide) ?_
        exact ih6_1 (j + 1) (by omega) (by omega) ls (lv_sub hl [3, 1, 2, 0] rfl)
  exact L6_1 _ (0) (Nat.lt_succ_self _) (by omega) ls (lv_sub hl [3, 2, 1, 0] rfl)

theorem iwX2_clear_X2 : ∀ w ∈ wsX20, w ∈ wsX2_clear := by decide +kernel
set_option maxHeartbeats 4000000 in
set_option maxRecDepth 100000 in
theorem c_X2_clear (l : Launch) (D : va_G) (cI cZ cQ cL : ClassId) (a0 : Nat) (a1 : Nat) (a2 : Nat) (n : Nat) (pp : Nat → B8) (pv : Nat → B8) (sz : Nat) : Met l yX2_clear wsX2_clear ({ frames := 0, cells := 0, slots := 0, locals := 0 } : Room) (PW D (TY cI cZ cQ cL) (wPt cI (a0) (a1) (a2) (n) (pp) (pv)) sz [.ref (a0)]) (QV D (va_A (wPt cI (a0) (a1) (a2) (n) (pp) (pv)) sz) (fun (_ : Unit) => True) (fun _ => (wPt cI (a0) (a1) (a2) (0) (pp) (pv)))) 0 0 (va_A (wPt cI (a0) (a1) (a2) (n) (pp) (pv)) sz) := by
  refine Met.ofW (cc := cX2_clear) (maxL := 1) (ret := none) (by decide) rfl ?_
  intro p e s m args below meth c s₁ B hml hv
  obtain ⟨rfl, hsz, hP, hK, hD0, hN⟩ := hv
  have hx := B.exec
  have hb := B.bytes
  have hr := B.returns
  have hts := atoms_spec (ws := wsX2_clear) B.pre
  have hown : s.vm.findClass RX2 = some m.cls := findClass_of_methodNamed B.named
  have hlocks := B.notSynchronized
  subst hsz
  have hD := hD0.self (sz := s.heap.size)
  generalize hAe : va_A (wPt cI (a0) (a1) (a2) (n) (pp) (pv)) s.heap.size = A at hD ⊢
  have hA : ∀ q : Nat, s.heap.size ≤ q → A q := fun q h => by rw [← hAe]; exact Or.inr h
  have hS : va_S A s.heap s.heap [] := va_S.rf
  have hl := lv_entry ([.ref (a0)]) (n := 1) (Nat.le_of_ble_eq_true rfl)
  rw [lg_entry_eq]
  generalize (lg_sl ([.ref (a0)]) ++ List.replicate (1 - (lg_sl ([.ref (a0)])).length) Slot.unset).toArray = ls at hl ⊢
  have hl : lv_has ls 1 [(0, .ref (a0))] := hl
  refine lv_aload_n hx hb dX2_clear_0 rfl (lv_at hl 0 rfl) ?_
  refine lv_iconst (v := nI (0)) hx hb dX2_clear_1 (by decide) ?_
  refine va_put (D := D) (ci := 1) (v := .int (nI (0))) (ty := .int) (C := RX2) (T := TX2) (N := 3) hx hb hts iwX2_clear_X2 tyX2 tyX2_ok nmX2 hown hK hP hD hS 0 rfl rfl 2 (by decide) (hts (.fieldLink RX2 18 "RepairSender$Points" "count" "I") (List.mem_of_getElem? (i := 1) rfl)) (fun _ h9 => h9) rfl (by decide +kernel) rfl rfl (Nat.le_of_ble_eq_true rfl) dX2_clear_2 (fun H locs hP hD hS => ?_)
  have hP : va_P D vwCl (wPt cI (a0) (a1) (a2) (0) (pp) (pv)) H := hP
  have hD : va_D A (wPt cI (a0) (a1) (a2) (0) (pp) (pv)) := hD
  have hP : va_P D vwCl (wPt cI (a0) (a1) (a2) (0) (pp) (pv)) H := hP
  have hD : va_D A (wPt cI (a0) (a1) (a2) (0) (pp) (pv)) := hD
  exact W.vret hx hb hr (fun t ht hW => ⟨⟨(), rfl, trivial, by rw [ht]; exact hP, hD⟩, hS.F ht⟩) hS.2.2 dX2_clear_5

theorem iwX2_add_X2 : ∀ w ∈ wsX20, w ∈ wsX2_add := by decide +kernel
set_option maxHeartbeats 4000000 in
set_option maxRecDepth 100000 in
theorem c_X2_add (l : Launch) (D : va_G) (cI cZ cQ cL : ClassId) (a0 : Nat) (a1 : Nat) (a2 : Nat) (n : Nat) (pp : Nat → B8) (pv : Nat → B8) (pa : B8) (x : B8) (sz : Nat) (hn : n < 8) : Met l yX2_add wsX2_add ({ frames := 0, cells := 0, slots := 0, locals := 0 } : Room) (PW D (TY cI cZ cQ cL) (wPt cI (a0) (a1) (a2) (n) (pp) (pv)) sz [.ref (a0), .int (bI (pa)), .int (bI (x))]) (QV D (va_A (wPt cI (a0) (a1) (a2) (n) (pp) (pv)) sz) (fun (_ : Unit) => True) (fun _ => (wPt cI (a0) (a1) (a2) (n + 1) (ub pp n pa) (ub pv n x)))) 0 0 (va_A (wPt cI (a0) (a1) (a2) (n) (pp) (pv)) sz) := by
  refine Met.ofW (cc := cX2_add) (maxL := 3) (ret := none) (by decide) rfl ?_
  intro p e s m args below meth c s₁ B hml hv
  obtain ⟨rfl, hsz, hP, hK, hD0, hN⟩ := hv
  have hx := B.exec
  have hb := B.bytes
  have hr := B.returns
  have hts := atoms_spec (ws := wsX2_add) B.pre
  have hown : s.vm.findClass RX2 = some m.cls := findClass_of_methodNamed B.named
  have hlocks := B.notSynchronized
  subst hsz
  have hD := hD0.self (sz := s.heap.size)
  generalize hAe : va_A (wPt cI (a0) (a1) (a2) (n) (pp) (pv)) s.heap.size = A at hD ⊢
  have hA : ∀ q : Nat, s.heap.size ≤ q → A q := fun q h => by rw [← hAe]; exact Or.inr h
  have hS : va_S A s.heap s.heap [] := va_S.rf
  have hl := lv_entry ([.ref (a0), .int (bI (pa)), .int (bI (x))]) (n := 3) (Nat.le_of_ble_eq_true rfl)
  rw [lg_entry_eq]
  generalize (lg_sl ([.ref (a0), .int (bI (pa)), .int (bI (x))]) ++ List.replicate (3 - (lg_sl ([.ref (a0), .int (bI (pa)), .int (bI (x))])).length) Slot.unset).toArray = ls at hl ⊢
  have hl : lv_has ls 3 [(0, .ref (a0)), (1, .int (bI (pa))), (2, .int (bI (x)))] := hl
  refine lv_aload_n hx hb dX2_add_0 rfl (lv_at hl 0 rfl) ?_
  refine va_get (D := D) (ci := 1) (v := .int (nI (n))) (C := RX2) (T := TX2) (N := 3) hx hb hts iwX2_add_X2 hown hK hP 0 rfl rfl 2 (by decide) (hts (.fieldLink RX2 18 "RepairSender$Points" "count" "I") (List.mem_of_getElem? (i := 1) rfl)) (fun _ h9 => h9) rfl dX2_add_1 ?_
  refine lv_bipush (v := nI (8)) hx hb dX2_add_4 (by decide) ?_
  refine q_icmp_ge (u := ((n : Nat) : Int)) (v := ((8 : Nat) : Int)) (tgt := 39) hx hb dX2_add_6 (by decide) (nI_toInt (by omega)) (nI_toInt (by omega)) (fun c_6 => absurd c_6 (by omega)) (fun c_6 => ?_)
  refine lv_aload_n hx hb dX2_add_9 rfl (lv_at hl 0 rfl) ?_
  refine va_get (D := D) (ci := 1) (v := .ref (a1)) (C := RX2) (T := TX2) (N := 3) hx hb hts iwX2_add_X2 hown hK hP 0 rfl rfl 0 (by decide) (hts (.fieldLink RX2 9 "RepairSender$Points" "places" "[I") (List.mem_of_getElem? (i := 2) rfl)) (fun _ h9 => h9) rfl dX2_add_10 ?_
  refine lv_aload_n hx hb dX2_add_13 rfl (lv_at hl 0 rfl) ?_
  refine va_get (D := D) (ci := 1) (v := .int (nI (n))) (C := RX2) (T := TX2) (N := 3) hx hb hts iwX2_add_X2 hown hK hP 0 rfl rfl 2 (by decide) (hts (.fieldLink RX2 18 "RepairSender$Points" "count" "I") (List.mem_of_getElem? (i := 1) rfl)) (fun _ h9 => h9) rfl dX2_add_14 ?_
  refine lv_iload_n hx hb dX2_add_17 rfl (lv_at hl 1 rfl) ?_
  refine q_iastB (f := pp) (j := n) (y := pa) hx hb hK hP hD hS 1 0 rfl rfl (by omega) (by decide) dX2_add_18 (fun H locs hP hD hS => ?_)
  have hP : va_P D vwCl (wPt cI (a0) (a1) (a2) (n) (ub pp n pa) (pv)) H := hP
  have hD : va_D A (wPt cI (a0) (a1) (a2) (n) (ub pp n pa) (pv)) := hD
  refine lv_aload_n hx hb dX2_add_19 rfl (lv_at hl 0 rfl) ?_
  refine va_get (D := D) (ci := 1) (v := .ref (a2)) (C := RX2) (T := TX2) (N := 3) hx hb hts iwX2_add_X2 hown hK hP 0 rfl rfl 1 (by decide) (hts (.fieldLink RX2 15 "RepairSender$Points" "values" "[I") (List.mem_of_getElem? (i := 3) rfl)) (fun _ h9 => h9) rfl dX2_add_20 ?_
  refine lv_aload_n hx hb dX2_add_23 rfl (lv_at hl 0 rfl) ?_
  refine va_get (D := D) (ci := 1) (v := .int (nI (n))) (C := RX2) (T := TX2) (N := 3) hx hb hts iwX2_add_X2 hown hK hP 0 rfl rfl 2 (by decide) (hts (.fieldLink RX2 18 "RepairSender$Points" "count" "I") (List.mem_of_getElem? (i := 1) rfl)) (fun _ h9 => h9) rfl dX2_add_24 ?_
  refine lv_iload_n hx hb dX2_add_27 rfl (lv_at hl 2 rfl) ?_
  refine q_iastB (f := pv) (j := n) (y := x) hx hb hK hP hD hS 2 0 rfl rfl (by omega) (by decide) dX2_add_28 (fun H locs hP hD hS => ?_)
  have hP : va_P D vwCl (wPt cI (a0) (a1) (a2) (n) (ub pp n pa) (ub pv n x)) H := hP
  have hD : va_D A (wPt cI (a0) (a1) (a2) (n) (ub pp n pa) (ub pv n x)) := hD
  refine lv_aload_n hx hb dX2_add_29 rfl (lv_at hl 0 rfl) ?_
  refine lv_dup hx hb dX2_add_30 rfl ?_
  refine va_get (D := D) (ci := 1) (v := .int (nI (n))) (C := RX2) (T := TX2) (N := 3) hx hb hts iwX2_add_X2 hown hK hP 0 rfl rfl 2 (by decide) (hts (.fieldLink RX2 18 "RepairSender$Points" "count" "I") (List.mem_of_getElem? (i := 1) rfl)) (fun _ h9 => h9) rfl dX2_add_31 ?_
  refine lv_iconst (v := nI (1)) hx hb dX2_add_34 (by decide) ?_
  refine lv_iadd hx hb dX2_add_35 ?_
  refine q_top (show (nI (n) + nI (1)) = nI (n + 1) from nI_add _ _) ?_
  refine va_put (D := D) (ci := 1) (v := .int (nI (n + 1))) (ty := .int) (C := RX2) (T := TX2) (N := 3) hx hb hts iwX2_add_X2 tyX2 tyX2_ok nmX2 hown hK hP hD hS 0 rfl rfl 2 (by decide) (hts (.fieldLink RX2 18 "RepairSender$Points" "count" "I") (List.mem_of_getElem? (i := 1) rfl)) (fun _ h9 => h9) rfl (by decide +kernel) rfl rfl (Nat.le_of_ble_eq_true rfl) dX2_add_36 (fun H locs hP hD hS => ?_)
  have hP : va_P D vwCl (wPt cI (a0) (a1) (a2) (n + 1) (ub pp n pa) (ub pv n x)) H := hP
  have hD : va_D A (wPt cI (a0) (a1) (a2) (n + 1) (ub pp n pa) (ub pv n x)) := hD
  have hP : va_P D vwCl (wPt cI (a0) (a1) (a2) (n + 1) (ub pp n pa) (ub pv n x)) H := hP
  have hD : va_D A (wPt cI (a0) (a1) (a2) (n + 1) (ub pp n pa) (ub pv n x)) := hD
  exact W.vret hx hb hr (fun t ht hW => ⟨⟨(), rfl, trivial, by rw [ht]; exact hP, hD⟩, hS.F ht⟩) hS.2.2 dX2_add_39

theorem iwX2_weight_X2 : ∀ w ∈ wsX20, w ∈ wsX2_weight := by decide +kernel
set_option maxHeartbeats 4000000 in
set_option maxRecDepth 100000 in
theorem c_X2_weight (l : Launch) (D : va_G) (cI cZ cQ cL : ClassId) (a0 : Nat) (a1 : Nat) (a2 : Nat) (n : Nat) (pp : Nat → B8) (pv : Nat → B8) (i : Nat) (x : B8) (sz : Nat) (hn : n ≤ 8) (hi : i < n) : Met l yX2_weight wsX2_weight ({ frames := 2, cells := 0, slots := 0, locals := 47 } : Room) (PW D (TY cI cZ cQ cL) (wPt cI (a0) (a1) (a2) (n) (pp) (pv)) sz [.ref (a0), .int (nI (i)), .int (bI (x))]) (vp_Si (fun r => r = bI (wgt n pp i x))) 0 0 (fun _ => False) := by
  refine Met.ofW (cc := cX2_weight) (maxL := 6) (ret := (some .int)) (by decide) rfl ?_
  intro p e s m args below meth c s₁ B hml hv
  obtain ⟨rfl, hsz, hP, hK, hD0, hN⟩ := hv
  have hx := B.exec
  have hb := B.bytes
  have hr := B.returns
  have hts := atoms_spec (ws := wsX2_weight) B.pre
  have hown : s.vm.findClass RX2 = some m.cls := findClass_of_methodNamed B.named
  have hlocks := B.notSynchronized
  subst hsz
  have hD := hD0
  have hl := lv_entry ([.ref (a0), .int (nI (i)), .int (bI (x))]) (n := 6) (Nat.le_of_ble_eq_true rfl)
  rw [lg_entry_eq]
  generalize (lg_sl ([.ref (a0), .int (nI (i)), .int (bI (x))]) ++ List.replicate (6 - (lg_sl ([.ref (a0), .int (nI (i)), .int (bI (x))])).length) Slot.unset).toArray = ls at hl ⊢
  have hl : lv_has ls 6 [(0, .ref (a0)), (1, .int (nI (i))), (2, .int (bI (x)))] := hl
  refine lv_iconst (v := nI (1)) hx hb dX2_weight_0 (by decide) ?_
  refine lv_istore_n (lv' := [(3, .int (nI (1))), (0, .ref (a0)), (1, .int (nI (i))), (2, .int (bI (x)))]) hx hb dX2_weight_1 rfl hl (by decide) rfl (fun ls hl => ?_)
  refine lv_iconst (v := nI (1)) hx hb dX2_weight_2 (by decide) ?_
  refine lv_istore (lv' := [(4, .int (nI (1))), (3, .int (nI (1))), (0, .ref (a0)), (1, .int (nI (i))), (2, .int (bI (x)))]) hx hb dX2_weight_3 hl (by decide) rfl (fun ls hl => ?_)
  refine lv_iconst (v := nI (0)) hx hb dX2_weight_5 (by decide) ?_
  refine lv_istore (lv' := [(5, .int (nI (0))), (4, .int (nI (1))), (3, .int (nI (1))), (0, .ref (a0)), (1, .int (nI (i))), (2, .int (bI (x)))]) hx hb dX2_weight_6 hl (by decide) rfl (fun ls hl => ?_)
  have L8_1 : ∀ (n8_1 : Nat) (j : Nat), n - j < n8_1 → (j ≤ n) → ∀ (ls : Array Slot), lv_has ls 6 [(0, .ref (a0)), (1, .int (nI (i))), (2, .int (bI (x))), (3, .int (bI (wab pp i x j))), (4, .int (bI (wab pp i (pp i) j))), (5, .int (nI (j)))] → W p l e (headSpec wsX2_weight ({ frames := 2, cells := 0, slots := 0, locals := 47 } : Room)).room s m ([.ref (a0), .int (nI (i)), .int (bI (x))] : List Value).toArray below meth c s.heap [] 0 0 (MQ below (vp_Si (fun r => r = bI (wgt n pp i x))) ([.ref (a0), .int (nI (i)), .int (bI (x))] : List Value).toArray s 0 0 (fun _ => False)) (F0 m 8 ls []) := by
    intro n8_1
    induction n8_1 with
    | zero =>
      intro j hn8_1
      exact absurd hn8_1 (Nat.not_lt_zero _)
    | succ n8_1 ih8_1 =>
      intro j hn8_1 hj ls hl
      refine lv_iload hx hb dX2_weight_8 (lv_at hl 5 rfl) ?_
      refine lv_aload_n hx hb dX2_weight_10 rfl (lv_at hl 0 rfl) ?_
      refine va_get (D := D) (ci := 1) (v := .int (nI (n))) (C := RX2) (T := TX2) (N := 3) hx hb hts iwX2_weight_X2 hown hK hP 0 rfl rfl 2 (by decide) (hts (.fieldLink RX2 18 "RepairSender$Points" "count" "I") (List.mem_of_getElem? (i := 1) rfl)) (fun _ h9 => h9) rfl dX2_weight_11 ?_
      refine q_icmp_ge (u := ((j : Nat) : Int)) (v := ((n : Nat) : Int)) (tgt := 64) hx hb dX2_weight_14 (by decide) (nI_toInt (by omega)) (nI_toInt (by omega)) (fun c_14 => ?_) (fun c_14 => ?_)
      · obtain rfl : n = j := by omega
        refine lv_iload_n hx hb dX2_weight_64 rfl (lv_at hl 3 rfl) ?_
        refine lv_iload hx hb dX2_weight_65 (lv_at hl 4 rfl) ?_
        refine q_csi (va_runSN (As := [.int (bI (wab pp i (pp i) n))]) (rest := [.int (bI (wab pp i x n))]) ⟨hx, hb, hml, hown, hts⟩ (c_X1_inverse l (wab pp i (pp i) n) ) ⟨va_cnB 1 hts gX2_weight_X1_inverse_n31 rfl rfl rfl (hN _ (List.mem_of_getElem? (i := 12) rfl)) (hts (.initialized RX1) (List.mem_of_getElem? (i := 4) rfl)) hd_X1_inverse ⟨Nat.le_of_ble_eq_true rfl, Nat.le_of_ble_eq_true rfl⟩, (hts (.static yX1_inverse) (List.mem_of_getElem? (i := 6) rfl)), trivial⟩ P0_s rfl rfl hl.1 rfl (lv_room (Nat.le_of_ble_eq_true rfl)) dX2_weight_67 ⟨Nat.le_of_ble_eq_true rfl, Nat.le_of_ble_eq_true rfl⟩) (fun r_67 hr_67 => ?_)
        obtain rfl : r_67 = bI (finv (wab pp i (pp i) n)) := hr_67
        refine q_csi (va_runSN (As := [.int (bI (wab pp i x n)), .int (bI (finv (wab pp i (pp i) n)))]) (rest := []) ⟨hx, hb, hml, hown, hts⟩ (c_X1_product l (wab pp i x n) (finv (wab pp i (pp i) n)) ) ⟨va_cnB 2 hts gX2_weight_X1_product_n26 rfl rfl rfl (hN _ (List.mem_of_getElem? (i := 11) rfl)) (hts (.initialized RX1) (List.mem_of_getElem? (i := 4) rfl)) hd_X1_product ⟨Nat.le_of_ble_eq_true rfl, Nat.le_of_ble_eq_true rfl⟩, (hts (.static yX1_product) (List.mem_of_getElem? (i := 3) rfl)), trivial⟩ P0_s rfl rfl hl.1 rfl (lv_room (Nat.le_of_ble_eq_true rfl)) dX2_weight_70 ⟨Nat.le_of_ble_eq_true rfl, Nat.le_of_ble_eq_true rfl⟩) (fun r_70 hr_70 => ?_)
        obtain rfl : r_70 = bI (fm (wab pp i x n) (finv (wab pp i (pp i) n))) := hr_70
        exact W.iret (v := bI (fm (wab pp i x n) (finv (wab pp i (pp i) n)))) hx hb hr (fun t ht hW => ⟨_, rfl, (by rfl), ht⟩) (fun q h => by cases h) dX2_weight_73
      · skip
        refine lv_iload hx hb dX2_weight_17 (lv_at hl 5 rfl) ?_
        refine lv_iload_n hx hb dX2_weight_19 rfl (lv_at hl 1 rfl) ?_
        refine q_icmp_eq (u := ((j : Nat) : Int)) (v := ((i : Nat) : Int)) (tgt := 58) hx hb dX2_weight_20 (by decide) (nI_toInt (by omega)) (nI_toInt (by omega)) (fun c_20 => ?_) (fun c_20 => ?_)
        · have e3 : ∀ y, wab pp i y (j + 1) = wab pp i y j := fun y => if_pos (by omega)
          have e4 := e3 (pp i)
          have e3 := e3 x
          refine lv_iinc (v := nI (j + 1)) (lv' := [(5, .int (nI (j + 1))), (0, .ref (a0)), (1, .int (nI (i))), (2, .int (bI (x))), (3, .int (bI (wab pp i x j))), (4, .int (bI (wab pp i (pp i) j)))]) hx hb dX2_weight_58 hl (k := 5) rfl (show nI (j) + Int32.ofInt 1 = nI (j + 1) from nI_add (j) 1) (by decide) rfl (fun ls hl => ?_)
          refine lv_goto (tgt := 8) hx hb dX2_weight_61 (by decide) ?_
          exact ih8_1 (j + 1) (by omega) (by omega) ls (lv_sub hl [1, 2, 3, 4, 5, 0] (by rw [e3, e4]; rfl))
        · have e3 : ∀ y, wab pp i y (j + 1) = fm (wab pp i y j) (y ^^^ (pp j)) := fun y => if_neg (by omega)
          have e4 := e3 (pp i)
          have e3 := e3 x
          refine lv_iload_n hx hb dX2_weight_23 rfl (lv_at hl 3 rfl) ?_
          refine lv_iload_n hx hb dX2_weight_24 rfl (lv_at hl 2 rfl) ?_
          refine lv_aload_n hx hb dX2_weight_25 rfl (lv_at hl 0 rfl) ?_
          refine va_get (D := D) (ci := 1) (v := .ref (a1)) (C := RX2) (T := TX2) (N := 3) hx hb hts iwX2_weight_X2 hown hK hP 0 rfl rfl 0 (by decide) (hts (.fieldLink RX2 9 "RepairSender$Points" "places" "[I") (List.mem_of_getElem? (i := 2) rfl)) (fun _ h9 => h9) rfl dX2_weight_26 ?_
          refine lv_iload hx hb dX2_weight_29 (lv_at hl 5 rfl) ?_
          refine q_ialdB (f := pp) (j := j) hx hb hK hP 1 0 rfl rfl (by omega) (by decide) dX2_weight_31 ?_
          refine lv_ixor hx hb dX2_weight_32 ?_
          refine q_top (show (bI (x) ^^^ bI (pp j)) = bI ((x) ^^^ (pp j)) from bI_xor _ _) ?_
          refine q_csi (va_runSN (As := [.int (bI (wab pp i x j)), .int (bI ((x) ^^^ (pp j)))]) (rest := []) ⟨hx, hb, hml, hown, hts⟩ (c_X1_product l (wab pp i x j) (x ^^^ (pp j)) ) ⟨va_cnB 2 hts gX2_weight_X1_product_n26 rfl rfl rfl (hN _ (List.mem_of_getElem? (i := 11) rfl)) (hts (.initialized RX1) (List.mem_of_getElem? (i := 4) rfl)) hd_X1_product ⟨Nat.le_of_ble_eq_true rfl, Nat.le_of_ble_eq_true rfl⟩, (hts (.static yX1_product) (List.mem_of_getElem? (i := 3) rfl)), trivial⟩ P0_s rfl rfl hl.1 rfl (lv_room (Nat.le_of_ble_eq_true rfl)) dX2_weight_33 ⟨Nat.le_of_ble_eq_true rfl, Nat.le_of_ble_eq_true rfl⟩) (fun r_33 hr_33 => ?_)
          obtain rfl : r_33 = bI (fm (wab pp i x j) (x ^^^ (pp j))) := hr_33
          refine lv_istore_n (lv' := [(3, .int (bI (fm (wab pp i x j) (x ^^^ (pp j))))), (0, .ref (a0)), (1, .int (nI (i))), (2, .int (bI (x))), (4, .int (bI (wab pp i (pp i) j))), (5, .int (nI (j)))]) hx hb dX2_weight_36 rfl hl (by decide) rfl (fun ls hl => ?_)
          refine lv_iload hx hb dX2_weight_37 (lv_at hl 4 rfl) ?_
          refine lv_aload_n hx hb dX2_weight_39 rfl (lv_at hl 1 rfl) ?_
          refine va_get (D := D) (ci := 1) (v := .ref (a1)) (C := RX2) (T := TX2) (N := 3) hx hb hts iwX2_weight_X2 hown hK hP 0 rfl rfl 0 (by decide) (hts (.fieldLink RX2 9 "RepairSender$Points" "places" "[I") (List.mem_of_getElem? (i := 2) rfl)) (fun _ h9 => h9) rfl dX2_weight_40 ?_
          refine lv_iload_n hx hb dX2_weight_43 rfl (lv_at hl 2 rfl) ?_
          refine q_ialdB (f := pp) (j := i) hx hb hK hP 1 0 rfl rfl (by omega) (by decide) dX2_weight_44 ?_
          refine lv_aload_n hx hb dX2_weight_45 rfl (lv_at hl 1 rfl) ?_
          refine va_get (D := D) (ci := 1) (v := .ref (a1)) (C := RX2) (T := TX2) (N := 3) hx hb hts iwX2_weight_X2 hown hK hP 0 rfl rfl 0 (by decide) (hts (.fieldLink RX2 9 "RepairSender$Points" "places" "[I") (List.mem_of_getElem? (i := 2) rfl)) (fun _ h9 => h9) rfl dX2_weight_46 ?_
          refine lv_iload hx hb dX2_weight_49 (lv_at hl 5 rfl) ?_
          refine q_ialdB (f := pp) (j := j) hx hb hK hP 1 0 rfl rfl (by omega) (by decide) dX2_weight_51 ?_
          refine lv_ixor hx hb dX2_weight_52 ?_
          refine q_top (show (bI (pp i) ^^^ bI (pp j)) = bI ((pp i) ^^^ (pp j)) from bI_xor _ _) ?_
          refine q_csi (va_runSN (As := [.int (bI (wab pp i (pp i) j)), .int (bI ((pp i) ^^^ (pp j)))]) (rest := []) ⟨hx, hb, hml, hown, hts⟩ (c_X1_product l (wab pp i (pp i) j) ((pp i) ^^^ (pp j)) ) ⟨va_cnB 2 hts gX2_weight_X1_product_n26 rfl rfl rfl (hN _ (List.mem_of_getElem? (i := 11) rfl)) (hts (.initialized RX1) (List.mem_of_getElem? (i := 4) rfl)) hd_X1_product ⟨Nat.le_of_ble_eq_true rfl, Nat.le_of_ble_eq_true rfl⟩, (hts (.static yX1_product) (List.mem_of_getElem? (i := 3) rfl)), trivial⟩ P0_s rfl rfl hl.1 rfl (lv_room (Nat.le_of_ble_eq_true rfl)) dX2_weight_53 ⟨Nat.le_of_ble_eq_true rfl, Nat.le_of_ble_eq_true rfl⟩) (fun r_53 hr_53 => ?_)
          obtain rfl : r_53 = bI (fm (wab pp i (pp i) j) ((pp i) ^^^ (pp j))) := hr_53
          refine lv_istore (lv' := [(4, .int (bI (fm (wab pp i (pp i) j) ((pp i) ^^^ (pp j))))), (3, .int (bI (fm (wab pp i x j) (x ^^^ (pp j))))), (0, .ref (a0)), (1, .int (nI (i))), (2, .int (bI (x))), (5, .int (nI (j)))]) hx hb dX2_weight_56 hl (by decide) rfl (fun ls hl => ?_)
          refine lv_iinc (v := nI (j + 1)) (lv' := [(5, .int (nI (j + 1))), (4, .int (bI (fm (wab pp i (pp i) j) ((pp i) ^^^ (pp j))))), (3, .int (bI (fm (wab pp i x j) (x ^^^ (pp j))))), (0, .ref (a0)), (1, .int (nI (i))), (2, .int (bI (x)))]) hx hb dX2_weight_58 hl (k := 5) rfl (show nI (j) + Int32.ofInt 1 = nI (j + 1) from nI_add (j) 1) (by decide) rfl (fun ls hl => ?_)
          refine lv_goto (tgt := 8) hx hb dX2_weight_61 (by decide) ?_
          exact ih8_1 (j + 1) (by omega) (by omega) ls (lv_sub hl [3, 4, 5, 2, 1, 0] (by rw [e3, e4]; rfl))
  exact L8_1 _ (0) (Nat.lt_succ_self _) (by omega) ls (lv_sub hl [3, 4, 5, 2, 1, 0] rfl)

theorem iwX2_polynomialAt_X2 : ∀ w ∈ wsX20, w ∈ wsX2_polynomialAt := by decide +kernel
set_option maxHeartbeats 4000000 in
set_option maxRecDepth 100000 in
theorem c_X2_polynomialAt (l : Launch) (D : va_G) (cI cZ cQ cL : ClassId) (a0 : Nat) (a1 : Nat) (a2 : Nat) (n : Nat) (pp : Nat → B8) (pv : Nat → B8) (x : B8) (sz : Nat) (hn : n ≤ 8) : Met l yX2_polynomialAt wsX2_polynomialAt ({ frames := 3, cells := 0, slots := 0, locals := 72 } : Room) (PW D (TY cI cZ cQ cL) (wPt cI (a0) (a1) (a2) (n) (pp) (pv)) sz [.ref (a0), .int (bI (x))]) (vp_Si (fun r => r = bI (lag n pp pv x))) 0 0 (fun _ => False) := by
  refine Met.ofW (cc := cX2_polynomialAt) (maxL := 4) (ret := (some .int)) (by decide) rfl ?_
  intro p e s m args below meth c s₁ B hml hv
  obtain ⟨rfl, hsz, hP, hK, hD0, hN⟩ := hv
  have hx := B.exec
  have hb := B.bytes
  have hr := B.returns
  have hts := atoms_spec (ws := wsX2_polynomialAt) B.pre
  have hown : s.vm.findClass RX2 = some m.cls := findClass_of_methodNamed B.named
  have hlocks := B.notSynchronized
  subst hsz
  have hD := hD0
  have hl := lv_entry ([.ref (a0), .int (bI (x))]) (n := 4) (Nat.le_of_ble_eq_true rfl)
  rw [lg_entry_eq]
  generalize (lg_sl ([.ref (a0), .int (bI (x))]) ++ List.replicate (4 - (lg_sl ([.ref (a0), .int (bI (x))])).length) Slot.unset).toArray = ls at hl ⊢
  have hl : lv_has ls 4 [(0, .ref (a0)), (1, .int (bI (x)))] := hl
  refine lv_iconst (v := nI (0)) hx hb dX2_polynomialAt_0 (by decide) ?_
  refine lv_istore_n (lv' := [(2, .int (nI (0))), (0, .ref (a0)), (1, .int (bI (x)))]) hx hb dX2_polynomialAt_1 rfl hl (by decide) rfl (fun ls hl => ?_)
  refine lv_iconst (v := nI (0)) hx hb dX2_polynomialAt_2 (by decide) ?_
  refine lv_istore_n (lv' := [(3, .int (nI (0))), (2, .int (nI (0))), (0, .ref (a0)), (1, .int (bI (x)))]) hx hb dX2_polynomialAt_3 rfl hl (by decide) rfl (fun ls hl => ?_)
  have L4_1 : ∀ (n4_1 : Nat) (i : Nat), n - i < n4_1 → (i ≤ n) → ∀ (ls : Array Slot), lv_has ls 4 [(0, .ref (a0)), (1, .int (bI (x))), (2, .int (bI (fs i (fun q => fm (pv q) (wgt n pp q x))))), (3, .int (nI (i)))] → W p l e (headSpec wsX2_polynomialAt ({ frames := 3, cells := 0, slots := 0, locals := 72 } : Room)).room s m ([.ref (a0), .int (bI (x))] : List Value).toArray below meth c s.heap [] 0 0 (MQ below (vp_Si (fun r => r = bI (lag n pp pv x))) ([.ref (a0), .int (bI (x))] : List Value).toArray s 0 0 (fun _ => False)) (F0 m 4 ls []) := by
    intro n4_1
    induction n4_1 with
    | zero =>
      intro i hn4_1
      exact absurd hn4_1 (Nat.not_lt_zero _)
    | succ n4_1 ih4_1 =>
      intro i hn4_1 hi ls hl
      refine lv_iload_n hx hb dX2_polynomialAt_4 rfl (lv_at hl 3 rfl) ?_
      refine lv_aload_n hx hb dX2_polynomialAt_5 rfl (lv_at hl 0 rfl) ?_
      refine va_get (D := D) (ci := 1) (v := .int (nI (n))) (C := RX2) (T := TX2) (N := 3) hx hb hts iwX2_polynomialAt_X2 hown hK hP 0 rfl rfl 2 (by decide) (hts (.fieldLink RX2 18 "RepairSender$Points" "count" "I") (List.mem_of_getElem? (i := 1) rfl)) (fun _ h9 => h9) rfl dX2_polynomialAt_6 ?_
      refine q_icmp_ge (u := ((i : Nat) : Int)) (v := ((n : Nat) : Int)) (tgt := 36) hx hb dX2_polynomialAt_9 (by decide) (nI_toInt (by omega)) (nI_toInt (by omega)) (fun c_9 => ?_) (fun c_9 => ?_)
      · obtain rfl : n = i := by omega
        refine lv_iload_n hx hb dX2_polynomialAt_36 rfl (lv_at hl 2 rfl) ?_
        exact W.iret (v := bI (fs n (fun q => fm (pv q) (wgt n pp q x)))) hx hb hr (fun t ht hW => ⟨_, rfl, (by rfl), ht⟩) (fun q h => by cases h) dX2_polynomialAt_37
      · skip
        refine lv_iload_n hx hb dX2_polynomialAt_12 rfl (lv_at hl 2 rfl) ?_
        refine lv_aload_n hx hb dX2_polynomialAt_13 rfl (lv_at hl 0 rfl) ?_
        refine va_get (D := D) (ci := 1) (v := .ref (a2)) (C := RX2) (T := TX2) (N := 3) hx hb hts iwX2_polynomialAt_X2 hown hK hP 0 rfl rfl 1 (by decide) (hts (.fieldLink RX2 15 "RepairSender$Points" "values" "[I") (List.mem_of_getElem? (i := 2) rfl)) (fun _ h9 => h9) rfl dX2_polynomialAt_14 ?_
        refine lv_iload_n hx hb dX2_polynomialAt_17 rfl (lv_at hl 3 rfl) ?_
        refine q_ialdB (f := pv) (j := i) hx hb hK hP 2 0 rfl rfl (by omega) (by decide) dX2_polynomialAt_18 ?_
        refine lv_aload_n hx hb dX2_polynomialAt_19 rfl (lv_at hl 0 rfl) ?_
        refine lv_iload_n hx hb dX2_polynomialAt_20 rfl (lv_at hl 3 rfl) ?_
        refine lv_iload_n hx hb dX2_polynomialAt_21 rfl (lv_at hl 1 rfl) ?_
        have hPc : va_P D vwCl (wPt cI (a0) (a1) (a2) (n) (pp) (pv)) s.heap := hP
        refine q_csi (va_runV (As := [.int (nI (i)), .int (bI (x))]) (rest := [.int (bI (pv i)), .int (bI (fs i (fun q => fm (pv q) (wgt n pp q x))))]) ⟨hx, hb, hml, hown, hts⟩ (c_X2_weight l D cI cZ cQ cL (a0) (a1) (a2) (n) (pp) (pv) (i) (x) s.heap.size (by omega) (by omega)) (cwV 2 hts gX2_polynomialAt_X2_weight rfl rfl rfl ⟨rfl, hd_X2_weight⟩ ⟨Nat.le_of_ble_eq_true rfl, Nat.le_of_ble_eq_true rfl⟩) (PW_v (q := (RX2, TX2, 3)) (ci := 1) (q0 := 0) hPc hK hD hN rfl rfl) rfl rfl hl.1 rfl (lv_room (Nat.le_of_ble_eq_true rfl)) dX2_polynomialAt_22 ⟨Nat.le_of_ble_eq_true rfl, Nat.le_of_ble_eq_true rfl⟩) (fun r_22 hr_22 => ?_)
        obtain rfl : r_22 = bI (wgt n pp i x) := hr_22
        refine q_csi (va_runSN (As := [.int (bI (pv i)), .int (bI (wgt n pp i x))]) (rest := [.int (bI (fs i (fun q => fm (pv q) (wgt n pp q x))))]) ⟨hx, hb, hml, hown, hts⟩ (c_X1_product l (pv i) (wgt n pp i x) ) ⟨va_cnB 2 hts gX2_polynomialAt_X1_product_n26 rfl rfl rfl (hN _ (List.mem_of_getElem? (i := 11) rfl)) (hts (.initialized RX1) (List.mem_of_getElem? (i := 10) rfl)) hd_X1_product ⟨Nat.le_of_ble_eq_true rfl, Nat.le_of_ble_eq_true rfl⟩, (hts (.static yX1_product) (List.mem_of_getElem? (i := 9) rfl)), trivial⟩ P0_s rfl rfl hl.1 rfl (lv_room (Nat.le_of_ble_eq_true rfl)) dX2_polynomialAt_25 ⟨Nat.le_of_ble_eq_true rfl, Nat.le_of_ble_eq_true rfl⟩) (fun r_25 hr_25 => ?_)
        obtain rfl : r_25 = bI (fm (pv i) (wgt n pp i x)) := hr_25
        refine lv_ixor hx hb dX2_polynomialAt_28 ?_
        refine q_top (show (bI (fs i (fun q => fm (pv q) (wgt n pp q x))) ^^^ bI (fm (pv i) (wgt n pp i x))) = bI ((fs i (fun q => fm (pv q) (wgt n pp q x))) ^^^ (fm (pv i) (wgt n pp i x))) from bI_xor _ _) ?_
        refine lv_istore_n (lv' := [(2, .int (bI ((fs i (fun q => fm (pv q) (wgt n pp q x))) ^^^ (fm (pv i) (wgt n pp i x))))), (0, .ref (a0)), (1, .int (bI (x))), (3, .int (nI (i)))]) hx hb dX2_polynomialAt_29 rfl hl (by decide) rfl (fun ls hl => ?_)
        refine lv_iinc (v := nI (i + 1)) (lv' := [(3, .int (nI (i + 1))), (2, .int (bI ((fs i (fun q => fm (pv q) (wgt n pp q x))) ^^^ (fm (pv i) (wgt n pp i x))))), (0, .ref (a0)), (1, .int (bI (x)))]) hx hb dX2_polynomialAt_30 hl (k := 3) rfl (show nI (i) + Int32.ofInt 1 = nI (i + 1) from nI_add (i) 1) (by decide) rfl (fun ls hl => ?_)
        refine lv_goto (tgt := 4) hx hb dX2_polynomialAt_33 (by decide) ?_
        exact ih4_1 (i + 1) (by omega) (by omega) ls (lv_sub hl [2, 3, 1, 0] rfl)
  exact L4_1 _ (0) (Nat.lt_succ_self _) (by omega) ls (lv_sub hl [2, 3, 1, 0] rfl)
