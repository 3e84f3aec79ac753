theorem ni_ne0 {n : Nat} (h : 0 < n) (h2 : n < 2 ^ 31) : ¬ nI n = 0 := fun e => by
  have h1 := congrArg Int32.toInt e
  rw [nI_toInt (by omega)] at h1
  have h3 : (0 : Int32).toInt = 0 := rfl
  omega
/-- the law's arrays -/
abbrev wT (cI : ClassId) (q0 q1 q2 : Nat) (nf : Nat → Nat) (dat : Nat → B8) (rf : Nat → Nat) : va_W := [(q0, .inl (cI, 6, .inl (nF nf))), (q1, .inl (cI, 8, .inl (bF dat))), (q2, .inl (cI, 30, .inl (nF rf)))]
theorem hd_L_product : yL_product.cls ≠ "java/lang/invoke/MethodHandle" ∧ yL_product.cls ≠ "java/lang/invoke/VarHandle" ∧ (parseMethodDescriptor yL_product.desc).map (fun d => d.parameters.length) = some 2 := by decide +kernel
theorem hd_L_inverse : yL_inverse.cls ≠ "java/lang/invoke/MethodHandle" ∧ yL_inverse.cls ≠ "java/lang/invoke/VarHandle" ∧ (parseMethodDescriptor yL_inverse.desc).map (fun d => d.parameters.length) = some 1 := by decide +kernel
theorem hd_L_packet : yL_packet.cls ≠ "java/lang/invoke/MethodHandle" ∧ yL_packet.cls ≠ "java/lang/invoke/VarHandle" ∧ (parseMethodDescriptor yL_packet.desc).map (fun d => d.parameters.length) = some 3 := by decide +kernel
theorem hd_L_need : yL_need.cls ≠ "java/lang/invoke/MethodHandle" ∧ yL_need.cls ≠ "java/lang/invoke/VarHandle" ∧ (parseMethodDescriptor yL_need.desc).map (fun d => d.parameters.length) = some 3 := by decide +kernel
theorem hd_L_sends : yL_sends.cls ≠ "java/lang/invoke/MethodHandle" ∧ yL_sends.cls ≠ "java/lang/invoke/VarHandle" ∧ (parseMethodDescriptor yL_sends.desc).map (fun d => d.parameters.length) = some 3 := by decide +kernel
theorem hd_L_rounds : yL_rounds.cls ≠ "java/lang/invoke/MethodHandle" ∧ yL_rounds.cls ≠ "java/lang/invoke/VarHandle" ∧ (parseMethodDescriptor yL_rounds.desc).map (fun d => d.parameters.length) = some 2 := by decide +kernel
theorem hd_L_does : yL_does.cls ≠ "java/lang/invoke/MethodHandle" ∧ yL_does.cls ≠ "java/lang/invoke/VarHandle" ∧ (parseMethodDescriptor yL_does.desc).map (fun d => d.parameters.length) = some 4 := by decide +kernel
theorem hd_L_isSender : yL_isSender.cls ≠ "java/lang/invoke/MethodHandle" ∧ yL_isSender.cls ≠ "java/lang/invoke/VarHandle" ∧ (parseMethodDescriptor yL_isSender.desc).map (fun d => d.parameters.length) = some 5 := by decide +kernel
set_option maxHeartbeats 4000000 in
set_option maxRecDepth 100000 in
theorem c_L_product (l : Launch) (a : B8) (b : B8) : Met l yL_product wsL_product ({ frames := 0, cells := 0, slots := 0, locals := 0 } : Room) (P0 [.int (bI (a)), .int (bI (b))]) (vp_Si (fun z9 => z9 = bI (fm a b))) 0 0 (fun _ => False) := by
  refine Met.ofW (cc := cL_product) (maxL := 4) (ret := (some .int)) (by decide) rfl ?_
  intro p e s m args below meth c s₁ B hml hv
  obtain ⟨rfl, -⟩ := hv
  have hx := B.exec
  have hb := B.bytes
  have hr := B.returns
  have hts := atoms_spec (ws := wsL_product) B.pre
  have hown : s.vm.findClass RL = some m.cls := findClass_of_methodNamed B.named
  have hlocks := B.notSynchronized
  have hl := lv_entry ([.int (bI (a)), .int (bI (b))]) (n := 4) (Nat.le_of_ble_eq_true rfl)
  rw [lg_entry_eq]
  generalize (lg_sl ([.int (bI (a)), .int (bI (b))]) ++ List.replicate (4 - (lg_sl ([.int (bI (a)), .int (bI (b))])).length) Slot.unset).toArray = ls at hl ⊢
  have hl : lv_has ls 4 [(0, .int (bI (a))), (1, .int (bI (b)))] := hl
  refine lv_iconst (v := nI (0)) hx hb dL_product_0 (by decide) ?_
  refine lv_istore_n (lv' := [(2, .int (nI (0))), (0, .int (bI (a))), (1, .int (bI (b)))]) hx hb dL_product_1 rfl hl (by decide) rfl (fun ls hl => ?_)
  refine lv_iconst (v := nI (0)) hx hb dL_product_2 (by decide) ?_
  refine lv_istore_n (lv' := [(3, .int (nI (0))), (2, .int (nI (0))), (0, .int (bI (a))), (1, .int (bI (b)))]) hx hb dL_product_3 rfl hl (by decide) rfl (fun ls hl => ?_)
  have L4_1 : ∀ (n4_1 : Nat) (j : Nat), 9 - j < n4_1 → (j ≤ 8) → ∀ (ls : Array Slot), lv_has ls 4 [(0, .int (bI (a))), (1, .int (bI (b))), (2, .int (nI (prA a.toNat b.toNat j))), (3, .int (nI (j)))] → W p l e (headSpec wsL_product ({ frames := 0, cells := 0, slots := 0, locals := 0 } : Room)).room s m ([.int (bI (a)), .int (bI (b))] : List Value).toArray below meth c s.heap [] 0 0 (MQ below (vp_Si (fun z9 => z9 = bI (fm a b))) ([.int (bI (a)), .int (bI (b))] : List Value).toArray s 0 0 (fun _ => False)) (F0 m 4 ls []) := by
    intro n4_1
    induction n4_1 with
    | zero =>
      intro j hn4_1
      exact absurd hn4_1 (Nat.not_lt_zero _)
    | succ n4_1 ih4_1 =>
      intro j hn4_1 hj ls hl
      refine lv_iload_n hx hb dL_product_4 rfl (lv_at hl 3 rfl) ?_
      refine lv_bipush (v := nI (8)) hx hb dL_product_5 (by decide) ?_
      refine q_icmp_ge (u := ((j : Nat) : Int)) (v := ((8 : Nat) : Int)) (tgt := 28) hx hb dL_product_7 (by decide) (nI_toInt (by omega)) (nI_toInt (by omega)) (fun c_7 => ?_) (fun c_7 => ?_)
      · obtain rfl : 8 = j := by omega
        refine lv_bipush (v := nI (14)) hx hb dL_product_28 (by decide) ?_
        refine lv_istore_n (lv' := [(3, .int (nI (14))), (0, .int (bI (a))), (1, .int (bI (b))), (2, .int (nI (prA a.toNat b.toNat 8)))]) hx hb dL_product_30 rfl hl (by decide) rfl (fun ls hl => ?_)
        have L31_3 : ∀ (n31_3 : Nat) (t : Nat), 8 - t < n31_3 → (t ≤ 7) → ∀ (ls : Array Slot), lv_has ls 4 [(0, .int (bI (a))), (1, .int (bI (b))), (2, .int (nI (rd (prA a.toNat b.toNat 8) t))), (3, .int (nI (14 - t)))] → W p l e (headSpec wsL_product ({ frames := 0, cells := 0, slots := 0, locals := 0 } : Room)).room s m ([.int (bI (a)), .int (bI (b))] : List Value).toArray below meth c s.heap [] 0 0 (MQ below (vp_Si (fun z9 => z9 = bI (fm a b))) ([.int (bI (a)), .int (bI (b))] : List Value).toArray s 0 0 (fun _ => False)) (F0 m 31 ls []) := by
          intro n31_3
          induction n31_3 with
          | zero =>
            intro t hn31_3
            exact absurd hn31_3 (Nat.not_lt_zero _)
          | succ n31_3 ih31_3 =>
            intro t hn31_3 ht ls hl
            refine lv_iload_n hx hb dL_product_31 rfl (lv_at hl 3 rfl) ?_
            refine lv_bipush (v := nI (7)) hx hb dL_product_32 (by decide) ?_
            refine q_icmp_le (u := ((14 - t : Nat) : Int)) (v := ((7 : Nat) : Int)) (tgt := 60) hx hb dL_product_34 (by decide) (nI_toInt (by omega)) (nI_toInt (by omega)) (fun c_34 => ?_) (fun c_34 => ?_)
            · obtain rfl : 7 = t := by omega
              refine lv_iload_n hx hb dL_product_60 rfl (lv_at hl 2 rfl) ?_
              exact W.iret (v := nI (rd (prA a.toNat b.toNat 8) 7)) hx hb hr (fun t ht hW => ⟨_, rfl, (by show nI _ = bI _; unfold bI; rw [pr_fm]), ht⟩) (fun q h => by cases h) dL_product_61
            · have hpw : (2 : Nat) ^ (14 - t - 8) ≤ 2 ^ 6 := Nat.pow_le_pow_right (by decide) (by omega)
              have hrd := rd_lt (prA_lt (a := a.toNat) (bI_lt b) 8 (Nat.le_refl 8)) t (by omega)
              refine lv_iload_n hx hb dL_product_37 rfl (lv_at hl 2 rfl) ?_
              refine lv_iload_n hx hb dL_product_38 rfl (lv_at hl 2 rfl) ?_
              refine lv_iload_n hx hb dL_product_39 rfl (lv_at hl 3 rfl) ?_
              refine lv_ishr hx hb dL_product_40 ?_
              refine q_top (show (nI (rd (prA a.toNat b.toNat 8) t) >>> (nI (14 - t) &&& 31)) = nI (rd (prA a.toNat b.toNat 8) t / 2 ^ (14 - t)) from nI_shr (by omega) (by omega)) ?_
              refine lv_iconst (v := nI (1)) hx hb dL_product_41 (by decide) ?_
              refine lv_iand hx hb dL_product_42 ?_
              refine q_top (show (nI (rd (prA a.toNat b.toNat 8) t / 2 ^ (14 - t)) &&& nI (1)) = nI ((rd (prA a.toNat b.toNat 8) t / 2 ^ (14 - t)) % 2) from nI_and1 _) ?_
              refine lv_sipush (v := nI (285)) hx hb dL_product_43 (by decide) ?_
              refine lv_iload_n hx hb dL_product_46 rfl (lv_at hl 3 rfl) ?_
              refine lv_bipush (v := nI (8)) hx hb dL_product_47 (by decide) ?_
              refine lv_isub hx hb dL_product_49 ?_
              refine q_top (show (nI (14 - t) - nI (8)) = nI ((14 - t) - 8) from pk_sub (by omega)) ?_
              refine lv_ishl hx hb dL_product_50 ?_
              refine q_top (show (nI (285) <<< (nI ((14 - t) - 8) &&& 31)) = nI (285 * 2 ^ ((14 - t) - 8)) from nI_shl (by omega) (by omega)) ?_
              refine lv_imul hx hb dL_product_51 ?_
              refine q_top (show (nI ((rd (prA a.toNat b.toNat 8) t / 2 ^ (14 - t)) % 2) * nI (285 * 2 ^ ((14 - t) - 8))) = nI (((rd (prA a.toNat b.toNat 8) t / 2 ^ (14 - t)) % 2) * (285 * 2 ^ ((14 - t) - 8))) from pk_mul _ _) ?_
              refine lv_ixor hx hb dL_product_52 ?_
              refine q_top (show (nI (rd (prA a.toNat b.toNat 8) t) ^^^ nI (((rd (prA a.toNat b.toNat 8) t / 2 ^ (14 - t)) % 2) * (285 * 2 ^ ((14 - t) - 8)))) = nI ((rd (prA a.toNat b.toNat 8) t) ^^^ (((rd (prA a.toNat b.toNat 8) t / 2 ^ (14 - t)) % 2) * (285 * 2 ^ ((14 - t) - 8)))) from nI_xor _ _) ?_
              refine lv_istore_n (lv' := [(2, .int (nI ((rd (prA a.toNat b.toNat 8) t) ^^^ (((rd (prA a.toNat b.toNat 8) t / 2 ^ (14 - t)) % 2) * (285 * 2 ^ ((14 - t) - 8)))))), (0, .int (bI (a))), (1, .int (bI (b))), (3, .int (nI (14 - t)))]) hx hb dL_product_53 rfl hl (by decide) rfl (fun ls hl => ?_)
              refine lv_iinc (v := nI (14 - (t + 1))) (lv' := [(3, .int (nI (14 - (t + 1)))), (2, .int (nI ((rd (prA a.toNat b.toNat 8) t) ^^^ (((rd (prA a.toNat b.toNat 8) t / 2 ^ (14 - t)) % 2) * (285 * 2 ^ ((14 - t) - 8)))))), (0, .int (bI (a))), (1, .int (bI (b)))]) hx hb dL_product_54 hl (k := 3) rfl (show nI (14 - t) + (-1) = nI (14 - (t + 1)) from by rw [show 14 - t = 14 - (t + 1) + 1 by omega]; exact pk_m1 _) (by decide) rfl (fun ls hl => ?_)
              refine lv_goto (tgt := 31) hx hb dL_product_57 (by decide) ?_
              exact ih31_3 (t + 1) (by omega) (by omega) ls (lv_sub hl [2, 3, 1, 0] rfl)
        exact L31_3 _ (0) (Nat.lt_succ_self _) (by omega) ls (lv_sub hl [1, 2, 3, 0] rfl)
      · have hpw : (2 : Nat) ^ j ≤ 2 ^ 7 := Nat.pow_le_pow_right (by decide) (by omega)
        have hbm : b.toNat * 2 ^ j ≤ 255 * 2 ^ 7 := Nat.mul_le_mul (by have := bI_lt b; omega) hpw
        have hba := bI_lt a
        have hbb := bI_lt b
        refine lv_iload_n hx hb dL_product_10 rfl (lv_at hl 2 rfl) ?_
        refine lv_iload_n hx hb dL_product_11 rfl (lv_at hl 0 rfl) ?_
        refine lv_iload_n hx hb dL_product_12 rfl (lv_at hl 3 rfl) ?_
        refine lv_ishr hx hb dL_product_13 ?_
        refine q_top (show (bI (a) >>> (nI (j) &&& 31)) = nI ((a).toNat / 2 ^ j) from nI_shr (by omega) (by omega)) ?_
        refine lv_iconst (v := nI (1)) hx hb dL_product_14 (by decide) ?_
        refine lv_iand hx hb dL_product_15 ?_
        refine q_top (show (nI ((a).toNat / 2 ^ j) &&& nI (1)) = nI (((a).toNat / 2 ^ j) % 2) from nI_and1 _) ?_
        refine lv_iload_n hx hb dL_product_16 rfl (lv_at hl 1 rfl) ?_
        refine lv_iload_n hx hb dL_product_17 rfl (lv_at hl 3 rfl) ?_
        refine lv_ishl hx hb dL_product_18 ?_
        refine q_top (show (bI (b) <<< (nI (j) &&& 31)) = nI ((b).toNat * 2 ^ j) from nI_shl (by omega) (by omega)) ?_
        refine lv_imul hx hb dL_product_19 ?_
        refine q_top (show (nI (((a).toNat / 2 ^ j) % 2) * nI ((b).toNat * 2 ^ j)) = nI ((((a).toNat / 2 ^ j) % 2) * ((b).toNat * 2 ^ j)) from pk_mul _ _) ?_
        refine lv_ixor hx hb dL_product_20 ?_
        refine q_top (show (nI (prA a.toNat b.toNat j) ^^^ nI ((((a).toNat / 2 ^ j) % 2) * ((b).toNat * 2 ^ j))) = nI ((prA a.toNat b.toNat j) ^^^ ((((a).toNat / 2 ^ j) % 2) * ((b).toNat * 2 ^ j))) from nI_xor _ _) ?_
        refine lv_istore_n (lv' := [(2, .int (nI ((prA a.toNat b.toNat j) ^^^ ((((a).toNat / 2 ^ j) % 2) * ((b).toNat * 2 ^ j))))), (0, .int (bI (a))), (1, .int (bI (b))), (3, .int (nI (j)))]) hx hb dL_product_21 rfl hl (by decide) rfl (fun ls hl => ?_)
        refine lv_iinc (v := nI (j + 1)) (lv' := [(3, .int (nI (j + 1))), (2, .int (nI ((prA a.toNat b.toNat j) ^^^ ((((a).toNat / 2 ^ j) % 2) * ((b).toNat * 2 ^ j))))), (0, .int (bI (a))), (1, .int (bI (b)))]) hx hb dL_product_22 hl (k := 3) rfl (show nI (j) + Int32.ofInt 1 = nI (j + 1) from nI_add (j) 1) (by decide) rfl (fun ls hl => ?_)
        refine lv_goto (tgt := 4) hx hb dL_product_25 (by decide) ?_
        exact ih4_1 (j + 1) (by omega) (by omega) ls (lv_sub hl [2, 3, 1, 0] rfl)
  exact L4_1 _ (0) (Nat.lt_succ_self _) (by omega) ls (lv_sub hl [2, 3, 1, 0] rfl)

set_option maxHeartbeats 4000000 in
set_option maxRecDepth 100000 in
theorem c_L_inverse (l : Launch) (a : B8) : Met l yL_inverse wsL_inverse ({ frames := 1, cells := 0, slots := 0, locals := 23 } : Room) (P0 [.int (bI (a))]) (vp_Si (fun z9 => z9 = bI (finv a))) 0 0 (fun _ => False) := by
  refine Met.ofW (cc := cL_inverse) (maxL := 4) (ret := (some .int)) (by decide) rfl ?_
  intro p e s m args below meth c s₁ B hml hv
  obtain ⟨rfl, -⟩ := hv
  have hx := B.exec
  have hb := B.bytes
  have hr := B.returns
  have hts := atoms_spec (ws := wsL_inverse) B.pre
  have hown : s.vm.findClass RL = some m.cls := findClass_of_methodNamed B.named
  have hlocks := B.notSynchronized
  have hl := lv_entry ([.int (bI (a))]) (n := 4) (Nat.le_of_ble_eq_true rfl)
  rw [lg_entry_eq]
  generalize (lg_sl ([.int (bI (a))]) ++ List.replicate (4 - (lg_sl ([.int (bI (a))])).length) Slot.unset).toArray = ls at hl ⊢
  have hl : lv_has ls 4 [(0, .int (bI (a)))] := hl
  refine lv_iconst (v := nI (1)) hx hb dL_inverse_0 (by decide) ?_
  refine lv_istore_n (lv' := [(1, .int (nI (1))), (0, .int (bI (a)))]) hx hb dL_inverse_1 rfl hl (by decide) rfl (fun ls hl => ?_)
  refine lv_iload_n hx hb dL_inverse_2 rfl (lv_at hl 1 rfl) ?_
  refine lv_istore_n (lv' := [(2, .int (bI (a))), (1, .int (nI (1))), (0, .int (bI (a)))]) hx hb dL_inverse_3 rfl hl (by decide) rfl (fun ls hl => ?_)
  refine lv_iconst (v := nI (0)) hx hb dL_inverse_4 (by decide) ?_
  refine lv_istore_n (lv' := [(3, .int (nI (0))), (2, .int (bI (a))), (1, .int (nI (1))), (0, .int (bI (a)))]) hx hb dL_inverse_5 rfl hl (by decide) rfl (fun ls hl => ?_)
  have L6_1 : ∀ (n6_1 : Nat) (j : Nat), 8 - j < n6_1 → (j ≤ 7) → ∀ (ls : Array Slot), lv_has ls 4 [(0, .int (bI (a))), (1, .int (bI ((fps a j).1))), (2, .int (bI ((fps a j).2))), (3, .int (nI (j)))] → W p l e (headSpec wsL_inverse ({ frames := 1, cells := 0, slots := 0, locals := 23 } : Room)).room s m ([.int (bI (a))] : List Value).toArray below meth c s.heap [] 0 0 (MQ below (vp_Si (fun z9 => z9 = bI (finv a))) ([.int (bI (a))] : List Value).toArray s 0 0 (fun _ => False)) (F0 m 6 ls []) := by
    intro n6_1
    induction n6_1 with
    | zero =>
      intro j hn6_1
      exact absurd hn6_1 (Nat.not_lt_zero _)
    | succ n6_1 ih6_1 =>
      intro j hn6_1 hj ls hl
      refine lv_iload_n hx hb dL_inverse_6 rfl (lv_at hl 3 rfl) ?_
      refine lv_bipush (v := nI (7)) hx hb dL_inverse_7 (by decide) ?_
      refine q_icmp_ge (u := ((j : Nat) : Int)) (v := ((7 : Nat) : Int)) (tgt := 30) hx hb dL_inverse_9 (by decide) (nI_toInt (by omega)) (nI_toInt (by omega)) (fun c_9 => ?_) (fun c_9 => ?_)
      · obtain rfl : 7 = j := by omega
        refine lv_iload_n hx hb dL_inverse_30 rfl (lv_at hl 1 rfl) ?_
        exact W.iret (v := bI ((fps a 7).1)) hx hb hr (fun t ht hW => ⟨_, rfl, (by rfl), ht⟩) (fun q h => by cases h) dL_inverse_31
      · skip
        refine lv_iload_n hx hb dL_inverse_12 rfl (lv_at hl 2 rfl) ?_
        refine lv_iload_n hx hb dL_inverse_13 rfl (lv_at hl 2 rfl) ?_
        refine q_csi (va_runS (As := [.int (bI ((fps a j).2)), .int (bI ((fps a j).2))]) (rest := []) ⟨hx, hb, hml, hown, hts⟩ (c_L_product l ((fps a j).2) ((fps a j).2) ) (va_cwS 2 hts gL_inverse_L_product rfl rfl rfl hd_L_product ⟨Nat.le_of_ble_eq_true rfl, Nat.le_of_ble_eq_true rfl⟩) P0_s rfl rfl hl.1 rfl (lv_room (Nat.le_of_ble_eq_true rfl)) dL_inverse_14 ⟨Nat.le_of_ble_eq_true rfl, Nat.le_of_ble_eq_true rfl⟩) (fun r_14 hr_14 => ?_)
        obtain rfl : r_14 = bI (fm ((fps a j).2) ((fps a j).2)) := hr_14
        refine lv_istore_n (lv' := [(2, .int (bI (fm ((fps a j).2) ((fps a j).2)))), (0, .int (bI (a))), (1, .int (bI ((fps a j).1))), (3, .int (nI (j)))]) hx hb dL_inverse_17 rfl hl (by decide) rfl (fun ls hl => ?_)
        refine lv_iload_n hx hb dL_inverse_18 rfl (lv_at hl 2 rfl) ?_
        refine lv_iload_n hx hb dL_inverse_19 rfl (lv_at hl 0 rfl) ?_
        refine q_csi (va_runS (As := [.int (bI ((fps a j).1)), .int (bI (fm ((fps a j).2) ((fps a j).2)))]) (rest := []) ⟨hx, hb, hml, hown, hts⟩ (c_L_product l ((fps a j).1) (fm (fps a j).2 (fps a j).2) ) (va_cwS 2 hts gL_inverse_L_product rfl rfl rfl hd_L_product ⟨Nat.le_of_ble_eq_true rfl, Nat.le_of_ble_eq_true rfl⟩) P0_s rfl rfl hl.1 rfl (lv_room (Nat.le_of_ble_eq_true rfl)) dL_inverse_20 ⟨Nat.le_of_ble_eq_true rfl, Nat.le_of_ble_eq_true rfl⟩) (fun r_20 hr_20 => ?_)
        obtain rfl : r_20 = bI (fm ((fps a j).1) (fm (fps a j).2 (fps a j).2)) := hr_20
        refine lv_istore_n (lv' := [(1, .int (bI (fm ((fps a j).1) (fm (fps a j).2 (fps a j).2)))), (2, .int (bI (fm ((fps a j).2) ((fps a j).2)))), (0, .int (bI (a))), (3, .int (nI (j)))]) hx hb dL_inverse_23 rfl hl (by decide) rfl (fun ls hl => ?_)
        refine lv_iinc (v := nI (j + 1)) (lv' := [(3, .int (nI (j + 1))), (1, .int (bI (fm ((fps a j).1) (fm (fps a j).2 (fps a j).2)))), (2, .int (bI (fm ((fps a j).2) ((fps a j).2)))), (0, .int (bI (a)))]) hx hb dL_inverse_24 hl (k := 3) rfl (show nI (j) + Int32.ofInt 1 = nI (j + 1) from nI_add (j) 1) (by decide) rfl (fun ls hl => ?_)
        refine lv_goto (tgt := 6) hx hb dL_inverse_27 (by decide) ?_
        exact ih6_1 (j + 1) (by omega) (by omega) ls (lv_sub hl [3, 1, 2, 0] rfl)
  exact L6_1 _ (0) (Nat.lt_succ_self _) (by omega) ls (lv_sub hl [3, 2, 1, 0] rfl)

set_option maxHeartbeats 4000000 in
set_option maxRecDepth 100000 in
theorem c_L_need (l : Launch) (D : va_G) (cI cZ cQ cL : ClassId) (q0 : Nat) (q1 : Nat) (q2 : Nat) (nf : Nat → Nat) (dat : Nat → B8) (rf : Nat → Nat) (k : Nat) (sv : Nat) (j : Nat) (sz : Nat) (hk : nf 0 = k) (hs : rf (5 * j + 2) = sv) (hk8 : k ≤ 8) (hsv : sv < 65536) (hj : j < 6) : Met l yL_need wsL_need ({ frames := 0, cells := 0, slots := 0, locals := 0 } : Room) (PW D (TY cI cZ cQ cL) (wT cI q0 q1 q2 nf dat rf) sz [.ref (q0), .ref (q2), .int (nI (j))]) (vp_Si (fun z9 => z9 = nI (k - pc sv))) 0 0 (fun _ => False) := by
  refine Met.ofW (cc := cL_need) (maxL := 5) (ret := (some .int)) (by decide) rfl ?_
  intro p e s m args below meth c s₁ B hml hv
  obtain ⟨rfl, hsz, hP, hK, hD0, hN⟩ := hv
  have hx := B.exec
  have hb := B.bytes
  have hr := B.returns
  have hts := atoms_spec (ws := wsL_need) B.pre
  have hown : s.vm.findClass RL = some m.cls := findClass_of_methodNamed B.named
  have hlocks := B.notSynchronized
  subst hsz
  have hD := hD0
  have hl := lv_entry ([.ref (q0), .ref (q2), .int (nI (j))]) (n := 5) (Nat.le_of_ble_eq_true rfl)
  rw [lg_entry_eq]
  generalize (lg_sl ([.ref (q0), .ref (q2), .int (nI (j))]) ++ List.replicate (5 - (lg_sl ([.ref (q0), .ref (q2), .int (nI (j))])).length) Slot.unset).toArray = ls at hl ⊢
  have hl : lv_has ls 5 [(0, .ref (q0)), (1, .ref (q2)), (2, .int (nI (j)))] := hl
  refine lv_aload_n hx hb dL_need_0 rfl (lv_at hl 0 rfl) ?_
  refine lv_iconst (v := nI (0)) hx hb dL_need_1 (by decide) ?_
  refine q_iald (f := nf) (j := 0) hx hb hK hP 0 0 rfl rfl (by decide) (by decide) dL_need_2 ?_
  refine q_top (show nI (nf 0) = nI (k) from by rw [hk]) ?_
  refine lv_istore_n (lv' := [(3, .int (nI (k))), (0, .ref (q0)), (1, .ref (q2)), (2, .int (nI (j)))]) hx hb dL_need_3 rfl hl (by decide) rfl (fun ls hl => ?_)
  refine lv_aload_n hx hb dL_need_4 rfl (lv_at hl 2 rfl) ?_
  refine lv_iconst (v := nI (5)) hx hb dL_need_5 (by decide) ?_
  refine lv_iload_n hx hb dL_need_6 rfl (lv_at hl 3 rfl) ?_
  refine lv_imul hx hb dL_need_7 ?_
  refine q_top (show (nI (5) * nI (j)) = nI (5 * j) from pk_mul _ _) ?_
  refine lv_iconst (v := nI (2)) hx hb dL_need_8 (by decide) ?_
  refine lv_iadd hx hb dL_need_9 ?_
  refine q_top (show (nI (5 * j) + nI (2)) = nI ((5 * j) + 2) from nI_add _ _) ?_
  refine q_iald (f := rf) (j := (5 * j) + 2) hx hb hK hP 2 0 rfl rfl (by omega) (by decide) dL_need_10 ?_
  refine q_top (show nI (rf ((5 * j) + 2)) = nI (sv) from congrArg nI hs) ?_
  refine lv_istore (lv' := [(4, .int (nI (sv))), (3, .int (nI (k))), (0, .ref (q0)), (1, .ref (q2)), (2, .int (nI (j)))]) hx hb dL_need_11 hl (by decide) rfl (fun ls hl => ?_)
  have eI : nI k = Int32.ofInt ((k : Int) - ((0 : Nat) : Int)) := by rw [iZ_nI (by omega)]; exact congrArg Int32.ofInt (by omega)
  have L13_1 : ∀ (n13_1 : Nat) (n : Nat) (ct : Nat), n < n13_1 → (n < 65536) → (ct + pc n = pc sv) → ∀ (ls : Array Slot), lv_has ls 5 [(0, .ref (q0)), (1, .ref (q2)), (2, .int (nI (j))), (3, .int (Int32.ofInt ((k : Int) - (ct : Int)))), (4, .int (nI (n)))] → W p l e (headSpec wsL_need ({ frames := 0, cells := 0, slots := 0, locals := 0 } : Room)).room s m ([.ref (q0), .ref (q2), .int (nI (j))] : List Value).toArray below meth c s.heap [] 0 0 (MQ below (vp_Si (fun z9 => z9 = nI (k - pc sv))) ([.ref (q0), .ref (q2), .int (nI (j))] : List Value).toArray s 0 0 (fun _ => False)) (F0 m 13 ls []) := by
    intro n13_1
    induction n13_1 with
    | zero =>
      intro n ct hn13_1
      exact absurd hn13_1 (Nat.not_lt_zero _)
    | succ n13_1 ih13_1 =>
      intro n ct hn13_1 hn hc ls hl
      refine lv_iload hx hb dL_need_13 (lv_at hl 4 rfl) ?_
      refine q_if_le (u := ((n : Nat) : Int)) (tgt := 33) hx hb dL_need_15 (by decide) (nI_toInt (by omega)) (fun c_15 => ?_) (fun c_15 => ?_)
      · have hn0 : n = 0 := by omega
        subst hn0
        have hc3 : ct = pc sv := by rw [← hc, pc_0]; rfl
        have hp16 := pc_le sv
        have hzt : (Int32.ofInt ((k : Int) - (ct : Int))).toInt = (k : Int) - (ct : Int) := iZ_toInt (by omega) (by omega)
        refine lv_iload_n hx hb dL_need_33 rfl (lv_at hl 3 rfl) ?_
        refine q_if_le (u := (Int32.ofInt ((k : Int) - (ct : Int))).toInt) (tgt := 41) hx hb dL_need_34 (by decide) (rfl) (fun c_34 => ?_) (fun c_34 => ?_)
        · rw [hzt] at c_34
          refine lv_iconst (v := nI (0)) hx hb dL_need_41 (by decide) ?_
          exact W.iret (v := nI (0)) hx hb hr (fun t ht hW => ⟨_, rfl, (by exact Int32.toInt_inj.mp (by (try rw [hzt]); rw [nI_toInt (by omega)]; (try rw [nI_toInt (by omega)]); omega)), ht⟩) (fun q h => by cases h) dL_need_42
        · rw [hzt] at c_34
          refine lv_iload_n hx hb dL_need_37 rfl (lv_at hl 3 rfl) ?_
          refine lv_goto (tgt := 42) hx hb dL_need_38 (by decide) ?_
          exact W.iret (v := (Int32.ofInt ((k : Int) - (ct : Int)))) hx hb hr (fun t ht hW => ⟨_, rfl, (by exact Int32.toInt_inj.mp (by (try rw [hzt]); rw [nI_toInt (by omega)]; (try rw [nI_toInt (by omega)]); omega)), ht⟩) (fun q h => by cases h) dL_need_42
      · have hn2 : n &&& (n - 1) < 65536 := by have := @Nat.and_le_left n (n - 1); omega
        have hlow := pc_low hn (by omega)
        have hc2 : ct + 1 + pc (n &&& (n - 1)) = pc sv := by omega
        have hlt : n &&& (n - 1) ≤ n - 1 := Nat.and_le_right
        have eI : Int32.ofInt ((k : Int) - (ct : Int) - 1) = Int32.ofInt ((k : Int) - ((ct + 1 : Nat) : Int)) := by congr 1; omega
        refine lv_iinc (v := (Int32.ofInt ((k : Int) - (ct : Int) - 1))) (lv' := [(3, .int (Int32.ofInt ((k : Int) - (ct : Int) - 1))), (0, .ref (q0)), (1, .ref (q2)), (2, .int (nI (j))), (4, .int (nI (n)))]) hx hb dL_need_18 hl (k := 3) rfl (iZ_m1 _) (by decide) rfl (fun ls hl => ?_)
        refine lv_iload hx hb dL_need_21 (lv_at hl 4 rfl) ?_
        refine lv_iload hx hb dL_need_23 (lv_at hl 4 rfl) ?_
        refine lv_iconst (v := nI (1)) hx hb dL_need_25 (by decide) ?_
        refine lv_isub hx hb dL_need_26 ?_
        refine q_top (show (nI (n) - nI (1)) = nI (n - 1) from pk_sub (by omega)) ?_
        refine lv_iand hx hb dL_need_27 ?_
        refine q_top (show (nI (n) &&& nI (n - 1)) = nI (n &&& (n - 1)) from nI_and _ _) ?_
        refine lv_istore (lv' := [(4, .int (nI (n &&& (n - 1)))), (3, .int (Int32.ofInt ((k : Int) - (ct : Int) - 1))), (0, .ref (q0)), (1, .ref (q2)), (2, .int (nI (j)))]) hx hb dL_need_28 hl (by decide) rfl (fun ls hl => ?_)
        refine lv_goto (tgt := 13) hx hb dL_need_30 (by decide) ?_
        exact ih13_1 (n &&& (n - 1)) (ct + 1) (by omega) (hn2) (hc2) ls (lv_sub hl [2, 3, 4, 1, 0] (by rw [eI]; rfl))
  exact L13_1 _ (sv) (0) (Nat.lt_succ_self _) (hsv) (by omega) ls (lv_sub hl [2, 3, 4, 1, 0] (by rw [eI]; rfl))

set_option maxHeartbeats 4000000 in
set_option maxRecDepth 100000 in
theorem c_L_packet (l : Launch) (D : va_G) (cI cZ cQ cL : ClassId) (q0 : Nat) (q1 : Nat) (q2 : Nat) (nf : Nat → Nat) (dat : Nat → B8) (rf : Nat → Nat) (k : Nat) (x : Nat) (sz : Nat) (hk : nf 0 = k) (hk1 : 1 ≤ k) (hk8 : k ≤ 8) (hx16 : x < 16) : Met l yL_packet wsL_packet ({ frames := 2, cells := 1, slots := 8, locals := 46 } : Room) (PW D (TY cI cZ cQ cL) (wT cI q0 q1 q2 nf dat rf) sz [.ref (q0), .ref (q1), .int (nI (x))]) (QI D (va_A (wT cI q0 q1 q2 nf dat rf) sz) (fun z9 (_ : Unit) => z9 = bI (lag k (fun j => BitVec.ofNat 8 j) dat (BitVec.ofNat 8 x))) (fun _ => (wT cI q0 q1 q2 nf dat rf))) 1 8 (va_A (wT cI q0 q1 q2 nf dat rf) sz) := by
  refine Met.ofW (cc := cL_packet) (maxL := 7) (ret := (some .int)) (by decide) rfl ?_
  intro p e s m args below meth c s₁ B hml hv
  obtain ⟨rfl, hsz, hP, hK, hD0, hN⟩ := hv
  have hx := B.exec
  have hb := B.bytes
  have hr := B.returns
  have hts := atoms_spec (ws := wsL_packet) B.pre
  have hown : s.vm.findClass RL = some m.cls := findClass_of_methodNamed B.named
  have hlocks := B.notSynchronized
  subst hsz
  have hD := hD0.self (sz := s.heap.size)
  generalize hAe : va_A (wT cI q0 q1 q2 nf dat rf) s.heap.size = A at hD ⊢
  have hA : ∀ q : Nat, s.heap.size ≤ q → A q := fun q h => by rw [← hAe]; exact Or.inr h
  have hS : va_S A s.heap s.heap [] := va_S.rf
  have hl := lv_entry ([.ref (q0), .ref (q1), .int (nI (x))]) (n := 7) (Nat.le_of_ble_eq_true rfl)
  rw [lg_entry_eq]
  generalize (lg_sl ([.ref (q0), .ref (q1), .int (nI (x))]) ++ List.replicate (7 - (lg_sl ([.ref (q0), .ref (q1), .int (nI (x))])).length) Slot.unset).toArray = ls at hl ⊢
  have hl : lv_has ls 7 [(0, .ref (q0)), (1, .ref (q1)), (2, .int (nI (x)))] := hl
  refine lv_bipush (v := nI (8)) hx hb dL_packet_0 (by decide) ?_
  refine va_newa (atype := .int) hx hb (hts (.arrayClass .int) (List.mem_of_getElem? (i := 1) rfl)) rfl hK hP hD hS hA (a0 := (8, .inl (bF (fun _ => 0)))) (fun c9 => bF0 c9 8) (by decide) (by decide) (by decide) (by decide) (by decide) dL_packet_2 (fun qr cA H hK2 hP hD hS => ?_)
  have eA : cI = cA := (tys_I hK hK2).symm
  subst eA
  have hS := hS
  have hP : va_P D vwCl ((wT cI q0 q1 q2 nf dat rf) ++ [(qr, .inl (cI, 8, .inl (bF ((fun _ => 0)))))]) H := hP
  have hD : va_D A ((wT cI q0 q1 q2 nf dat rf) ++ [(qr, .inl (cI, 8, .inl (bF ((fun _ => 0)))))]) := hD
  refine lv_astore_n (lv' := [(3, .ref (qr)), (0, .ref (q0)), (1, .ref (q1)), (2, .int (nI (x)))]) hx hb dL_packet_4 rfl hl (by decide) rfl (fun ls hl => ?_)
  refine lv_iconst (v := nI (0)) hx hb dL_packet_5 (by decide) ?_
  refine lv_istore (lv' := [(4, .int (nI (0))), (3, .ref (qr)), (0, .ref (q0)), (1, .ref (q1)), (2, .int (nI (x)))]) hx hb dL_packet_6 hl (by decide) rfl (fun ls hl => ?_)
  have L8_1 : ∀ (n8_1 : Nat) (j : Nat) (row : Nat → B8), 9 - j < n8_1 → (j ≤ k) → (∀ i, i < j → row i = dat i) → ∀ (H : Heap) (locs : List Loc), va_P D vwCl ((wT cI q0 q1 q2 nf dat rf) ++ [(qr, .inl (cI, 8, .inl (bF row)))]) H → va_D A ((wT cI q0 q1 q2 nf dat rf) ++ [(qr, .inl (cI, 8, .inl (bF row)))]) → va_S A s.heap H locs → ∀ (ls : Array Slot), lv_has ls 7 [(0, .ref (q0)), (1, .ref (q1)), (2, .int (nI (x))), (3, .ref (qr)), (4, .int (nI (j)))] → W p l e (headSpec wsL_packet ({ frames := 2, cells := 1, slots := 8, locals := 46 } : Room)).room s m ([.ref (q0), .ref (q1), .int (nI (x))] : List Value).toArray below meth c H locs 1 8 (MQ below (QI D A (fun z9 (_ : Unit) => z9 = bI (lag k (fun j => BitVec.ofNat 8 j) dat (BitVec.ofNat 8 x))) (fun _ => (wT cI q0 q1 q2 nf dat rf))) ([.ref (q0), .ref (q1), .int (nI (x))] : List Value).toArray s 1 8 A) (F0 m 8 ls []) := by
    intro n8_1
    induction n8_1 with
    | zero =>
      intro j row hn8_1
      exact absurd hn8_1 (Nat.not_lt_zero _)
    | succ n8_1 ih8_1 =>
      intro j row hn8_1 hj hrow H locs hP hD hS ls hl
      refine lv_iload hx hb dL_packet_8 (lv_at hl 4 rfl) ?_
      refine lv_aload_n hx hb dL_packet_10 rfl (lv_at hl 0 rfl) ?_
      refine lv_iconst (v := nI (0)) hx hb dL_packet_11 (by decide) ?_
      refine q_iald (f := nf) (j := 0) hx hb hK hP 0 0 rfl rfl (by decide) (by decide) dL_packet_12 ?_
      refine q_top (show nI (nf 0) = nI (k) from by rw [hk]) ?_
      refine q_icmp_ge (u := ((j : Nat) : Int)) (v := ((k : Nat) : Int)) (tgt := 30) hx hb dL_packet_13 (by decide) (nI_toInt (by omega)) (nI_toInt (by omega)) (fun c_13 => ?_) (fun c_13 => ?_)
      · obtain rfl : k = j := by omega
        refine lv_iconst (v := nI (1)) hx hb dL_packet_30 (by decide) ?_
        refine lv_istore (lv' := [(4, .int (nI (1))), (0, .ref (q0)), (1, .ref (q1)), (2, .int (nI (x))), (3, .ref (qr))]) hx hb dL_packet_31 hl (by decide) rfl (fun ls hl => ?_)
        have L33_3 : ∀ (n33_3 : Nat) (w : Nat) (row : Nat → B8), 9 - w < n33_3 → (w + 1 ≤ k) → (∀ i, i + w < k → row i = nev dat (BitVec.ofNat 8 x) w i) → ∀ (H : Heap) (locs : List Loc), va_P D vwCl ((wT cI q0 q1 q2 nf dat rf) ++ [(qr, .inl (cI, 8, .inl (bF row)))]) H → va_D A ((wT cI q0 q1 q2 nf dat rf) ++ [(qr, .inl (cI, 8, .inl (bF row)))]) → va_S A s.heap H locs → ∀ (ls : Array Slot), lv_has ls 7 [(0, .ref (q0)), (1, .ref (q1)), (2, .int (nI (x))), (3, .ref (qr)), (4, .int (nI (w + 1)))] → W p l e (headSpec wsL_packet ({ frames := 2, cells := 1, slots := 8, locals := 46 } : Room)).room s m ([.ref (q0), .ref (q1), .int (nI (x))] : List Value).toArray below meth c H locs 1 8 (MQ below (QI D A (fun z9 (_ : Unit) => z9 = bI (lag k (fun j => BitVec.ofNat 8 j) dat (BitVec.ofNat 8 x))) (fun _ => (wT cI q0 q1 q2 nf dat rf))) ([.ref (q0), .ref (q1), .int (nI (x))] : List Value).toArray s 1 8 A) (F0 m 33 ls []) := by
          intro n33_3
          induction n33_3 with
          | zero =>
            intro w row hn33_3
            exact absurd hn33_3 (Nat.not_lt_zero _)
          | succ n33_3 ih33_3 =>
            intro w row hn33_3 hw hrow H locs hP hD hS ls hl
            refine lv_iload hx hb dL_packet_33 (lv_at hl 4 rfl) ?_
            refine lv_aload_n hx hb dL_packet_35 rfl (lv_at hl 0 rfl) ?_
            refine lv_iconst (v := nI (0)) hx hb dL_packet_36 (by decide) ?_
            refine q_iald (f := nf) (j := 0) hx hb hK hP 0 0 rfl rfl (by decide) (by decide) dL_packet_37 ?_
            refine q_top (show nI (nf 0) = nI (k) from by rw [hk]) ?_
            refine q_icmp_ge (u := ((w + 1 : Nat) : Int)) (v := ((k : Nat) : Int)) (tgt := 110) hx hb dL_packet_38 (by decide) (nI_toInt (by omega)) (nI_toInt (by omega)) (fun c_38 => ?_) (fun c_38 => ?_)
            · skip
              refine lv_aload_n hx hb dL_packet_110 rfl (lv_at hl 3 rfl) ?_
              refine lv_iconst (v := nI (0)) hx hb dL_packet_111 (by decide) ?_
              refine q_ialdB (f := row) (j := 0) hx hb hK hP 3 0 rfl rfl (by omega) (by decide) dL_packet_112 ?_
              refine q_top (show bI (row 0) = bI (lag k (fun k => BitVec.ofNat 8 k) dat (BitVec.ofNat 8 x)) from by rw [hrow 0 (by omega), show w = k - 1 by omega, nev_lag hk1 hk8]) ?_
              have hP := jP_l hP
              have hD := jD_l hD
              have hP : va_P D vwCl (wT cI q0 q1 q2 nf dat rf) H := hP
              have hD : va_D A (wT cI q0 q1 q2 nf dat rf) := hD
              exact W.iret (v := bI (lag k (fun k => BitVec.ofNat 8 k) dat (BitVec.ofNat 8 x))) hx hb hr (fun t ht hW => ⟨⟨_, (), rfl, (by rfl), by rw [ht]; exact hP, hD⟩, hS.F ht⟩) hS.2.2 dL_packet_113
            · skip
              refine lv_iconst (v := nI (0)) hx hb dL_packet_41 (by decide) ?_
              refine lv_istore (lv' := [(5, .int (nI (0))), (0, .ref (q0)), (1, .ref (q1)), (2, .int (nI (x))), (3, .ref (qr)), (4, .int (nI (w + 1)))]) hx hb dL_packet_42 hl (by decide) rfl (fun ls hl => ?_)
              have L44_5 : ∀ (n44_5 : Nat) (j : Nat) (row : Nat → B8), 9 - j < n44_5 → (j + w + 1 ≤ k) → (∀ i, i + w < k → row i = nevR dat (BitVec.ofNat 8 x) w j i) → ∀ (H : Heap) (locs : List Loc), va_P D vwCl ((wT cI q0 q1 q2 nf dat rf) ++ [(qr, .inl (cI, 8, .inl (bF row)))]) H → va_D A ((wT cI q0 q1 q2 nf dat rf) ++ [(qr, .inl (cI, 8, .inl (bF row)))]) → va_S A s.heap H locs → ∀ (ls : Array Slot), lv_has ls 7 [(0, .ref (q0)), (1, .ref (q1)), (2, .int (nI (x))), (3, .ref (qr)), (4, .int (nI (w + 1))), (5, .int (nI (j)))] → W p l e (headSpec wsL_packet ({ frames := 2, cells := 1, slots := 8, locals := 46 } : Room)).room s m ([.ref (q0), .ref (q1), .int (nI (x))] : List Value).toArray below meth c H locs 1 8 (MQ below (QI D A (fun z9 (_ : Unit) => z9 = bI (lag k (fun j => BitVec.ofNat 8 j) dat (BitVec.ofNat 8 x))) (fun _ => (wT cI q0 q1 q2 nf dat rf))) ([.ref (q0), .ref (q1), .int (nI (x))] : List Value).toArray s 1 8 A) (F0 m 44 ls []) := by
                intro n44_5
                induction n44_5 with
                | zero =>
                  intro j row hn44_5
                  exact absurd hn44_5 (Nat.not_lt_zero _)
                | succ n44_5 ih44_5 =>
                  intro j row hn44_5 hj hrj H locs hP hD hS ls hl
                  refine lv_iload hx hb dL_packet_44 (lv_at hl 5 rfl) ?_
                  refine lv_iload hx hb dL_packet_46 (lv_at hl 4 rfl) ?_
                  refine lv_iadd hx hb dL_packet_48 ?_
                  refine q_top (show (nI (j) + nI (w + 1)) = nI (j + (w + 1)) from nI_add _ _) ?_
                  refine lv_aload_n hx hb dL_packet_49 rfl (lv_at hl 0 rfl) ?_
                  refine lv_iconst (v := nI (0)) hx hb dL_packet_50 (by decide) ?_
                  refine q_iald (f := nf) (j := 0) hx hb hK hP 0 0 rfl rfl (by decide) (by decide) dL_packet_51 ?_
                  refine q_top (show nI (nf 0) = nI (k) from by rw [hk]) ?_
                  refine q_icmp_ge (u := ((j + (w + 1) : Nat) : Int)) (v := ((k : Nat) : Int)) (tgt := 104) hx hb dL_packet_52 (by decide) (nI_toInt (by omega)) (nI_toInt (by omega)) (fun c_52 => ?_) (fun c_52 => ?_)
                  · have hrow2 : ∀ i, i + (w + 1) < k → row i = nev dat (BitVec.ofNat 8 x) (w + 1) i := fun i hi => by rw [hrj i (by omega)]; exact if_pos (by omega)
                    refine lv_iinc (v := nI (w + 1 + 1)) (lv' := [(4, .int (nI (w + 1 + 1))), (0, .ref (q0)), (1, .ref (q1)), (2, .int (nI (x))), (3, .ref (qr)), (5, .int (nI (j)))]) hx hb dL_packet_104 hl (k := 4) rfl (nI_add (w + 1) 1) (by decide) rfl (fun ls hl => ?_)
                    refine lv_goto (tgt := 33) hx hb dL_packet_107 (by decide) ?_
                    exact ih33_3 (w + 1) (row) (by omega) (by omega) (hrow2) _ _ hP hD hS ls (lv_sub hl [1, 2, 3, 4, 0] rfl)
                  · skip
                    refine lv_aload_n hx hb dL_packet_55 rfl (lv_at hl 3 rfl) ?_
                    refine lv_iload hx hb dL_packet_56 (lv_at hl 5 rfl) ?_
                    refine q_ialdB (f := row) (j := j) hx hb hK hP 3 0 rfl rfl (by omega) (by decide) dL_packet_58 ?_
                    refine q_top (show bI (row j) = bI (nev dat (BitVec.ofNat 8 x) w j) from congrArg bI ((hrj j (by omega)).trans (nevR_a _ _ _ _))) ?_
                    refine lv_aload_n hx hb dL_packet_59 rfl (lv_at hl 3 rfl) ?_
                    refine lv_iload hx hb dL_packet_60 (lv_at hl 5 rfl) ?_
                    refine lv_iconst (v := nI (1)) hx hb dL_packet_62 (by decide) ?_
                    refine lv_iadd hx hb dL_packet_63 ?_
                    refine q_top (show (nI (j) + nI (1)) = nI (j + 1) from nI_add _ _) ?_
                    refine q_ialdB (f := row) (j := j + 1) hx hb hK hP 3 0 rfl rfl (by omega) (by decide) dL_packet_64 ?_
                    refine q_top (show bI (row (j + 1)) = bI (nev dat (BitVec.ofNat 8 x) w (j + 1)) from congrArg bI ((hrj (j + 1) (by omega)).trans (nevR_b _ _ _ _))) ?_
                    refine lv_ixor hx hb dL_packet_65 ?_
                    refine q_top (show (bI (nev dat (BitVec.ofNat 8 x) w j) ^^^ bI (nev dat (BitVec.ofNat 8 x) w (j + 1))) = bI ((nev dat (BitVec.ofNat 8 x) w j) ^^^ (nev dat (BitVec.ofNat 8 x) w (j + 1))) from bI_xor _ _) ?_
                    refine lv_iload hx hb dL_packet_66 (lv_at hl 5 rfl) ?_
                    refine lv_iload hx hb dL_packet_68 (lv_at hl 5 rfl) ?_
                    refine lv_iload hx hb dL_packet_70 (lv_at hl 4 rfl) ?_
                    refine lv_iadd hx hb dL_packet_72 ?_
                    refine q_top (show (nI (j) + nI (w + 1)) = nI (j + (w + 1)) from nI_add _ _) ?_
                    refine lv_ixor hx hb dL_packet_73 ?_
                    refine q_top (show (nI (j) ^^^ nI (j + (w + 1))) = bI (BitVec.ofNat 8 j ^^^ BitVec.ofNat 8 (j + (w + 1))) from by rw [nI_xor]; exact bI_of_xor (Nat.xor_lt_two_pow (n := 8) (by omega) (by omega))) ?_
                    refine q_csi (va_runS (As := [.int (bI (BitVec.ofNat 8 j ^^^ BitVec.ofNat 8 (j + (w + 1))))]) (rest := [.int (bI ((nev dat (BitVec.ofNat 8 x) w j) ^^^ (nev dat (BitVec.ofNat 8 x) w (j + 1))))]) ⟨hx, hb, hml, hown, hts⟩ (c_L_inverse l (BitVec.ofNat 8 j ^^^ BitVec.ofNat 8 (j + (w + 1))) ) (va_cwS 1 hts gL_packet_L_inverse rfl rfl rfl hd_L_inverse ⟨Nat.le_of_ble_eq_true rfl, Nat.le_of_ble_eq_true rfl⟩) P0_s rfl rfl hl.1 rfl (lv_room (Nat.le_of_ble_eq_true rfl)) dL_packet_74 ⟨Nat.le_of_ble_eq_true rfl, Nat.le_of_ble_eq_true rfl⟩) (fun r_74 hr_74 => ?_)
                    obtain rfl : r_74 = bI (finv (BitVec.ofNat 8 j ^^^ BitVec.ofNat 8 (j + (w + 1)))) := hr_74
                    refine q_csi (va_runS (As := [.int (bI ((nev dat (BitVec.ofNat 8 x) w j) ^^^ (nev dat (BitVec.ofNat 8 x) w (j + 1)))), .int (bI (finv (BitVec.ofNat 8 j ^^^ BitVec.ofNat 8 (j + (w + 1)))))]) (rest := []) ⟨hx, hb, hml, hown, hts⟩ (c_L_product l (nev dat (BitVec.ofNat 8 x) w j ^^^ nev dat (BitVec.ofNat 8 x) w (j + 1)) (finv (BitVec.ofNat 8 j ^^^ BitVec.ofNat 8 (j + (w + 1)))) ) (va_cwS 2 hts gL_packet_L_product rfl rfl rfl hd_L_product ⟨Nat.le_of_ble_eq_true rfl, Nat.le_of_ble_eq_true rfl⟩) P0_s rfl rfl hl.1 rfl (lv_room (Nat.le_of_ble_eq_true rfl)) dL_packet_77 ⟨Nat.le_of_ble_eq_true rfl, Nat.le_of_ble_eq_true rfl⟩) (fun r_77 hr_77 => ?_)
                    obtain rfl : r_77 = bI (fm (nev dat (BitVec.ofNat 8 x) w j ^^^ nev dat (BitVec.ofNat 8 x) w (j + 1)) (finv (BitVec.ofNat 8 j ^^^ BitVec.ofNat 8 (j + (w + 1))))) := hr_77
                    refine lv_istore (lv' := [(6, .int (bI (fm (nev dat (BitVec.ofNat 8 x) w j ^^^ nev dat (BitVec.ofNat 8 x) w (j + 1)) (finv (BitVec.ofNat 8 j ^^^ BitVec.ofNat 8 (j + (w + 1))))))), (0, .ref (q0)), (1, .ref (q1)), (2, .int (nI (x))), (3, .ref (qr)), (4, .int (nI (w + 1))), (5, .int (nI (j)))]) hx hb dL_packet_80 hl (by decide) rfl (fun ls hl => ?_)
                    refine lv_aload_n hx hb dL_packet_82 rfl (lv_at hl 4 rfl) ?_
                    refine lv_iload hx hb dL_packet_83 (lv_at hl 6 rfl) ?_
                    refine lv_dup2_11 hx hb dL_packet_85 rfl rfl ?_
                    refine q_ialdB (f := row) (j := j) hx hb hK hP 3 0 rfl rfl (by omega) (by decide) dL_packet_86 ?_
                    refine q_top (show bI (row j) = bI (nev dat (BitVec.ofNat 8 x) w j) from congrArg bI ((hrj j (by omega)).trans (nevR_a _ _ _ _))) ?_
                    refine lv_iload hx hb dL_packet_87 (lv_at hl 0 rfl) ?_
                    refine lv_iload_n hx hb dL_packet_89 rfl (lv_at hl 3 rfl) ?_
                    refine lv_iload hx hb dL_packet_90 (lv_at hl 6 rfl) ?_
                    refine lv_ixor hx hb dL_packet_92 ?_
                    refine q_top (show (nI (x) ^^^ nI (j)) = bI (BitVec.ofNat 8 x ^^^ BitVec.ofNat 8 j) from by rw [nI_xor]; exact bI_of_xor (Nat.xor_lt_two_pow (n := 8) (by omega) (by omega))) ?_
                    refine q_csi (va_runS (As := [.int (bI (fm (nev dat (BitVec.ofNat 8 x) w j ^^^ nev dat (BitVec.ofNat 8 x) w (j + 1)) (finv (BitVec.ofNat 8 j ^^^ BitVec.ofNat 8 (j + (w + 1)))))), .int (bI (BitVec.ofNat 8 x ^^^ BitVec.ofNat 8 j))]) (rest := [.int (bI (nev dat (BitVec.ofNat 8 x) w j)), .int (nI (j)), .ref (qr)]) ⟨hx, hb, hml, hown, hts⟩ (c_L_product l (fm (nev dat (BitVec.ofNat 8 x) w j ^^^ nev dat (BitVec.ofNat 8 x) w (j + 1)) (finv (BitVec.ofNat 8 j ^^^ BitVec.ofNat 8 (j + (w + 1))))) (BitVec.ofNat 8 x ^^^ BitVec.ofNat 8 j) ) (va_cwS 2 hts gL_packet_L_product rfl rfl rfl hd_L_product ⟨Nat.le_of_ble_eq_true rfl, Nat.le_of_ble_eq_true rfl⟩) P0_s rfl rfl hl.1 rfl (lv_room (Nat.le_of_ble_eq_true rfl)) dL_packet_93 ⟨Nat.le_of_ble_eq_true rfl, Nat.le_of_ble_eq_true rfl⟩) (fun r_93 hr_93 => ?_)
                    obtain rfl : r_93 = bI (fm (fm (nev dat (BitVec.ofNat 8 x) w j ^^^ nev dat (BitVec.ofNat 8 x) w (j + 1)) (finv (BitVec.ofNat 8 j ^^^ BitVec.ofNat 8 (j + (w + 1))))) (BitVec.ofNat 8 x ^^^ BitVec.ofNat 8 j)) := hr_93
                    refine lv_ixor hx hb dL_packet_96 ?_
                    refine q_top (show (bI (nev dat (BitVec.ofNat 8 x) w j) ^^^ bI (fm (fm (nev dat (BitVec.ofNat 8 x) w j ^^^ nev dat (BitVec.ofNat 8 x) w (j + 1)) (finv (BitVec.ofNat 8 j ^^^ BitVec.ofNat 8 (j + (w + 1))))) (BitVec.ofNat 8 x ^^^ BitVec.ofNat 8 j))) = bI ((nev dat (BitVec.ofNat 8 x) w j) ^^^ (fm (fm (nev dat (BitVec.ofNat 8 x) w j ^^^ nev dat (BitVec.ofNat 8 x) w (j + 1)) (finv (BitVec.ofNat 8 j ^^^ BitVec.ofNat 8 (j + (w + 1))))) (BitVec.ofNat 8 x ^^^ BitVec.ofNat 8 j))) from bI_xor _ _) ?_
                    refine q_top (show bI ((nev dat (BitVec.ofNat 8 x) w j) ^^^ (fm (fm (nev dat (BitVec.ofNat 8 x) w j ^^^ nev dat (BitVec.ofNat 8 x) w (j + 1)) (finv (BitVec.ofNat 8 j ^^^ BitVec.ofNat 8 (j + (w + 1))))) (BitVec.ofNat 8 x ^^^ BitVec.ofNat 8 j))) = bI (nev dat (BitVec.ofNat 8 x) (w + 1) j) from rfl) ?_
                    refine q_iastB (f := row) (j := j) (y := nev dat (BitVec.ofNat 8 x) (w + 1) j) hx hb hK hP hD hS 3 0 rfl rfl (by omega) (by decide) dL_packet_97 (fun H locs hP hD hS => ?_)
                    have hP : va_P D vwCl ((wT cI q0 q1 q2 nf dat rf) ++ [(qr, .inl (cI, 8, .inl (bF (ub row j (nev dat (BitVec.ofNat 8 x) (w + 1) j)))))]) H := hP
                    have hD : va_D A ((wT cI q0 q1 q2 nf dat rf) ++ [(qr, .inl (cI, 8, .inl (bF (ub row j (nev dat (BitVec.ofNat 8 x) (w + 1) j)))))]) := hD
                    refine lv_iinc (v := nI (j + 1)) (lv' := [(5, .int (nI (j + 1))), (6, .int (bI (fm (nev dat (BitVec.ofNat 8 x) w j ^^^ nev dat (BitVec.ofNat 8 x) w (j + 1)) (finv (BitVec.ofNat 8 j ^^^ BitVec.ofNat 8 (j + (w + 1))))))), (0, .ref (q0)), (1, .ref (q1)), (2, .int (nI (x))), (3, .ref (qr)), (4, .int (nI (w + 1)))]) hx hb dL_packet_98 hl (k := 6) rfl (show nI (j) + Int32.ofInt 1 = nI (j + 1) from nI_add (j) 1) (by decide) rfl (fun ls hl => ?_)
                    refine lv_goto (tgt := 44) hx hb dL_packet_101 (by decide) ?_
                    exact ih44_5 (j + 1) (ub row j (nev dat (BitVec.ofNat 8 x) (w + 1) j)) (by omega) (by omega) (fun i hi => by rw [← nevR_s]; unfold ub; split; (first | rfl | skip); (first | exact hrj i hi | skip)) _ _ hP hD hS ls (lv_sub hl [2, 3, 4, 5, 6, 0] rfl)
              exact L44_5 _ (0) (row) (Nat.lt_succ_self _) (by omega) (fun i hi => by rw [nevR_0]; exact hrow i hi) _ _ hP hD hS ls (lv_sub hl [1, 2, 3, 4, 5, 0] rfl)
        exact L33_3 _ (0) (row) (Nat.lt_succ_self _) (by omega) (hrow) _ _ hP hD hS ls (lv_sub hl [1, 2, 3, 4, 0] rfl)
      · skip
        refine lv_aload_n hx hb dL_packet_16 rfl (lv_at hl 3 rfl) ?_
        refine lv_iload hx hb dL_packet_17 (lv_at hl 4 rfl) ?_
        refine lv_aload_n hx hb dL_packet_19 rfl (lv_at hl 1 rfl) ?_
        refine lv_iload hx hb dL_packet_20 (lv_at hl 4 rfl) ?_
        refine q_ialdB (f := dat) (j := j) hx hb hK hP 1 0 rfl rfl (by omega) (by decide) dL_packet_22 ?_
        refine q_iastB (f := row) (j := j) (y := dat j) hx hb hK hP hD hS 3 0 rfl rfl (by omega) (by decide) dL_packet_23 (fun H locs hP hD hS => ?_)
        have hP : va_P D vwCl ((wT cI q0 q1 q2 nf dat rf) ++ [(qr, .inl (cI, 8, .inl (bF (ub row j (dat j)))))]) H := hP
        have hD : va_D A ((wT cI q0 q1 q2 nf dat rf) ++ [(qr, .inl (cI, 8, .inl (bF (ub row j (dat j)))))]) := hD
        refine lv_iinc (v := nI (j + 1)) (lv' := [(4, .int (nI (j + 1))), (0, .ref (q0)), (1, .ref (q1)), (2, .int (nI (x))), (3, .ref (qr))]) hx hb dL_packet_24 hl (k := 4) rfl (show nI (j) + Int32.ofInt 1 = nI (j + 1) from nI_add (j) 1) (by decide) rfl (fun ls hl => ?_)
        refine lv_goto (tgt := 8) hx hb dL_packet_27 (by decide) ?_
        exact ih8_1 (j + 1) (ub row j (dat j)) (by omega) (by omega) (fun i hi => by unfold ub; split; (first | (rename_i h9; rw [h9]) | skip); (first | exact hrow i (by omega) | skip)) _ _ hP hD hS ls (lv_sub hl [1, 2, 3, 4, 0] rfl)
  exact L8_1 _ (0) ((fun _ => 0)) (Nat.lt_succ_self _) (by omega) (fun i hi => absurd hi (Nat.not_lt_zero i)) _ _ hP hD hS ls (lv_sub hl [2, 3, 4, 1, 0] rfl)

set_option maxHeartbeats 4000000 in
set_option maxRecDepth 100000 in
theorem c_L_sends (l : Launch) (D : va_G) (cI cZ cQ cL : ClassId) (q0 : Nat) (q1 : Nat) (q2 : Nat) (k : Nat) (pat : Nat) (sent : Nat) (rc : Nat) (rep : Nat) (kept : Nat) (dat : Nat → B8) (los : Nat → Nat) (wai : Nat → Nat) (set : Nat → Nat) (bad : Nat → Nat) (gon : Nat → Nat) (mn : Nat) (sz : Nat) (hrc : rc ≤ 6) (hse : sent + mn < 2 ^ 30) (hlos : ∀ r, r < 6 → los r ≤ 2047) (hgon : ∀ r, r < 6 → gon r ≤ 1) : Met l yL_sends wsL_sends ({ frames := 0, cells := 0, slots := 0, locals := 0 } : Room) (PW D (TY cI cZ cQ cL) (wT cI q0 q1 q2 (nA k pat sent rc rep kept) dat (rA los wai set bad gon)) sz [.ref (q0), .ref (q2), .int (nI (mn))]) (QV D (va_A (wT cI q0 q1 q2 (nA k pat sent rc rep kept) dat (rA los wai set bad gon)) sz) (fun (_ : Unit) => True) (fun _ => (wT cI q0 q1 q2 (nA k pat (sent + mn) rc rep kept) dat (rA los wai (sndM rc sent los gon set mn) bad gon)))) 0 0 (va_A (wT cI q0 q1 q2 (nA k pat sent rc rep kept) dat (rA los wai set bad gon)) sz) := by
  refine Met.ofW (cc := cL_sends) (maxL := 6) (ret := none) (by decide) rfl ?_
  intro p e s m args below meth c s₁ B hml hv
  obtain ⟨rfl, hsz, hP, hK, hD0, hN⟩ := hv
  have hx := B.exec
  have hb := B.bytes
  have hr := B.returns
  have hts := atoms_spec (ws := wsL_sends) B.pre
  have hown : s.vm.findClass RL = some m.cls := findClass_of_methodNamed B.named
  have hlocks := B.notSynchronized
  subst hsz
  have hD := hD0.self (sz := s.heap.size)
  generalize hAe : va_A (wT cI q0 q1 q2 (nA k pat sent rc rep kept) dat (rA los wai set bad gon)) s.heap.size = A at hD ⊢
  have hA : ∀ q : Nat, s.heap.size ≤ q → A q := fun q h => by rw [← hAe]; exact Or.inr h
  have hS : va_S A s.heap s.heap [] := va_S.rf
  have hl := lv_entry ([.ref (q0), .ref (q2), .int (nI (mn))]) (n := 6) (Nat.le_of_ble_eq_true rfl)
  rw [lg_entry_eq]
  generalize (lg_sl ([.ref (q0), .ref (q2), .int (nI (mn))]) ++ List.replicate (6 - (lg_sl ([.ref (q0), .ref (q2), .int (nI (mn))])).length) Slot.unset).toArray = ls at hl ⊢
  have hl : lv_has ls 6 [(0, .ref (q0)), (1, .ref (q2)), (2, .int (nI (mn)))] := hl
  refine lv_iconst (v := nI (0)) hx hb dL_sends_0 (by decide) ?_
  refine lv_istore_n (lv' := [(3, .int (nI (0))), (0, .ref (q0)), (1, .ref (q2)), (2, .int (nI (mn)))]) hx hb dL_sends_1 rfl hl (by decide) rfl (fun ls hl => ?_)
  have L2_1 : ∀ (n2_1 : Nat) (t : Nat), mn + 1 - t < n2_1 → (t ≤ mn) → ∀ (H : Heap) (locs : List Loc), va_P D vwCl (wT cI q0 q1 q2 (nA k pat (sent + t) rc rep kept) dat (rA los wai (sndM rc sent los gon set t) bad gon)) H → va_D A (wT cI q0 q1 q2 (nA k pat (sent + t) rc rep kept) dat (rA los wai (sndM rc sent los gon set t) bad gon)) → va_S A s.heap H locs → ∀ (ls : Array Slot), lv_has ls 6 [(0, .ref (q0)), (1, .ref (q2)), (2, .int (nI (mn))), (3, .int (nI (t)))] → W p l e (headSpec wsL_sends ({ frames := 0, cells := 0, slots := 0, locals := 0 } : Room)).room s m ([.ref (q0), .ref (q2), .int (nI (mn))] : List Value).toArray below meth c H locs 0 0 (MQ below (QV D A (fun (_ : Unit) => True) (fun _ => (wT cI q0 q1 q2 (nA k pat (sent + mn) rc rep kept) dat (rA los wai (sndM rc sent los gon set mn) bad gon)))) ([.ref (q0), .ref (q2), .int (nI (mn))] : List Value).toArray s 0 0 A) (F0 m 2 ls []) := by
    intro n2_1
    induction n2_1 with
    | zero =>
      intro t hn2_1
      exact absurd hn2_1 (Nat.not_lt_zero _)
    | succ n2_1 ih2_1 =>
      intro t hn2_1 ht H locs hP hD hS ls hl
      refine lv_iload_n hx hb dL_sends_2 rfl (lv_at hl 3 rfl) ?_
      refine lv_iload_n hx hb dL_sends_3 rfl (lv_at hl 2 rfl) ?_
      refine q_icmp_ge (u := ((t : Nat) : Int)) (v := ((mn : Nat) : Int)) (tgt := 85) hx hb dL_sends_4 (by decide) (nI_toInt (by omega)) (nI_toInt (by omega)) (fun c_4 => ?_) (fun c_4 => ?_)
      · obtain rfl : mn = t := by omega
        have hP : va_P D vwCl (wT cI q0 q1 q2 (nA k pat (sent + mn) rc rep kept) dat (rA los wai (sndM rc sent los gon set mn) bad gon)) H := hP
        have hD : va_D A (wT cI q0 q1 q2 (nA k pat (sent + mn) rc rep kept) dat (rA los wai (sndM rc sent los gon set mn) bad gon)) := hD
        exact W.vret hx hb hr (fun t ht hW => ⟨⟨(), rfl, trivial, by rw [ht]; exact hP, hD⟩, hS.F ht⟩) hS.2.2 dL_sends_85
      · skip
        refine lv_iconst (v := nI (0)) hx hb dL_sends_7 (by decide) ?_
        refine lv_istore (lv' := [(4, .int (nI (0))), (0, .ref (q0)), (1, .ref (q2)), (2, .int (nI (mn))), (3, .int (nI (t)))]) hx hb dL_sends_8 hl (by decide) rfl (fun ls hl => ?_)
        have L10_3 : ∀ (n10_3 : Nat) (j : Nat), 7 - j < n10_3 → (j ≤ rc) → ∀ (H : Heap) (locs : List Loc), va_P D vwCl (wT cI q0 q1 q2 (nA k pat (sent + t) rc rep kept) dat (rA los wai (snd1 j (sent + t) los gon (sndM rc sent los gon set t)) bad gon)) H → va_D A (wT cI q0 q1 q2 (nA k pat (sent + t) rc rep kept) dat (rA los wai (snd1 j (sent + t) los gon (sndM rc sent los gon set t)) bad gon)) → va_S A s.heap H locs → ∀ (ls : Array Slot), lv_has ls 6 [(0, .ref (q0)), (1, .ref (q2)), (2, .int (nI (mn))), (3, .int (nI (t))), (4, .int (nI (j)))] → W p l e (headSpec wsL_sends ({ frames := 0, cells := 0, slots := 0, locals := 0 } : Room)).room s m ([.ref (q0), .ref (q2), .int (nI (mn))] : List Value).toArray below meth c H locs 0 0 (MQ below (QV D A (fun (_ : Unit) => True) (fun _ => (wT cI q0 q1 q2 (nA k pat (sent + mn) rc rep kept) dat (rA los wai (sndM rc sent los gon set mn) bad gon)))) ([.ref (q0), .ref (q2), .int (nI (mn))] : List Value).toArray s 0 0 A) (F0 m 10 ls []) := by
          intro n10_3
          induction n10_3 with
          | zero =>
            intro j hn10_3
            exact absurd hn10_3 (Nat.not_lt_zero _)
          | succ n10_3 ih10_3 =>
            intro j hn10_3 hj H locs hP hD hS ls hl
            refine lv_iload hx hb dL_sends_10 (lv_at hl 4 rfl) ?_
            refine lv_aload_n hx hb dL_sends_12 rfl (lv_at hl 0 rfl) ?_
            refine lv_iconst (v := nI (3)) hx hb dL_sends_13 (by decide) ?_
            refine q_iald (f := (nA k pat (sent + t) rc rep kept)) (j := 3) hx hb hK hP 0 0 rfl rfl (by decide) (by decide) dL_sends_14 ?_
            refine q_top (show nI ((nA k pat (sent + t) rc rep kept) 3) = nI (rc) from rfl) ?_
            refine q_icmp_ge (u := ((j : Nat) : Int)) (v := ((rc : Nat) : Int)) (tgt := 72) hx hb dL_sends_15 (by decide) (nI_toInt (by omega)) (nI_toInt (by omega)) (fun c_15 => ?_) (fun c_15 => ?_)
            · obtain rfl : rc = j := by omega
              refine lv_aload_n hx hb dL_sends_72 rfl (lv_at hl 0 rfl) ?_
              refine lv_iconst (v := nI (2)) hx hb dL_sends_73 (by decide) ?_
              refine lv_dup2_11 hx hb dL_sends_74 rfl rfl ?_
              refine q_iald (f := (nA k pat (sent + t) rc rep kept)) (j := 2) hx hb hK hP 0 0 rfl rfl (by decide) (by decide) dL_sends_75 ?_
              refine q_top (show nI ((nA k pat (sent + t) rc rep kept) 2) = nI (sent + t) from rfl) ?_
              refine lv_iconst (v := nI (1)) hx hb dL_sends_76 (by decide) ?_
              refine lv_iadd hx hb dL_sends_77 ?_
              refine q_top (show (nI (sent + t) + nI (1)) = nI ((sent + t) + 1) from nI_add _ _) ?_
              refine q_iast (f := (nA k pat (sent + t) rc rep kept)) (j := 2) (y := (sent + t) + 1) hx hb hK hP hD hS 0 0 rfl rfl (by decide) (by decide) dL_sends_78 (fun H locs hP hD hS => ?_)
              have hP : va_P D vwCl (wT cI q0 q1 q2 (un (nA k pat (sent + t) rc rep kept) 2 ((sent + t) + 1)) dat (rA los wai (snd1 rc (sent + t) los gon (sndM rc sent los gon set t)) bad gon)) H := hP
              have hD : va_D A (wT cI q0 q1 q2 (un (nA k pat (sent + t) rc rep kept) 2 ((sent + t) + 1)) dat (rA los wai (snd1 rc (sent + t) los gon (sndM rc sent los gon set t)) bad gon)) := hD
              rw [unA_2] at hP hD
              refine lv_iinc (v := nI (t + 1)) (lv' := [(3, .int (nI (t + 1))), (0, .ref (q0)), (1, .ref (q2)), (2, .int (nI (mn))), (4, .int (nI (rc)))]) hx hb dL_sends_79 hl (k := 3) rfl (show nI (t) + Int32.ofInt 1 = nI (t + 1) from nI_add (t) 1) (by decide) rfl (fun ls hl => ?_)
              refine lv_goto (tgt := 2) hx hb dL_sends_82 (by decide) ?_
              exact ih2_1 (t + 1) (by omega) (by omega) _ _ hP hD hS ls (lv_sub hl [1, 2, 3, 0] rfl)
            · skip
              refine lv_aload_n hx hb dL_sends_18 rfl (lv_at hl 1 rfl) ?_
              refine lv_iconst (v := nI (5)) hx hb dL_sends_19 (by decide) ?_
              refine lv_iload hx hb dL_sends_20 (lv_at hl 4 rfl) ?_
              refine lv_imul hx hb dL_sends_22 ?_
              refine q_top (show (nI (5) * nI (j)) = nI (5 * j) from pk_mul _ _) ?_
              refine q_iald (f := (rA los wai (snd1 j (sent + t) los gon (sndM rc sent los gon set t)) bad gon)) (j := 5 * j) hx hb hK hP 2 0 rfl rfl (by omega) (by decide) dL_sends_23 ?_
              refine q_top (show nI ((rA los wai (snd1 j (sent + t) los gon (sndM rc sent los gon set t)) bad gon) (5 * j)) = nI (los j) from congrArg nI (rA_0 _ _ _ _ _ _)) ?_
              refine lv_aload_n hx hb dL_sends_24 rfl (lv_at hl 0 rfl) ?_
              refine lv_iconst (v := nI (2)) hx hb dL_sends_25 (by decide) ?_
              refine q_iald (f := (nA k pat (sent + t) rc rep kept)) (j := 2) hx hb hK hP 0 0 rfl rfl (by decide) (by decide) dL_sends_26 ?_
              refine q_top (show nI ((nA k pat (sent + t) rc rep kept) 2) = nI (sent + t) from rfl) ?_
              refine lv_bipush (v := nI (11)) hx hb dL_sends_27 (by decide) ?_
              refine lv_irem hx hb dL_sends_29 (by decide) ?_
              refine q_top (show (nI (sent + t) - nI (sent + t) / nI (11) * nI (11)) = nI ((sent + t) % 11) from pk_rem (by omega) (by decide) (by decide)) ?_
              have hl9 := hlos j (by omega)
              have hg9 := hgon j (by omega)
              have hpw : (2 : Nat) ^ ((sent + t) % 16) ≤ 2 ^ 15 := Nat.pow_le_pow_right (by decide) (by omega)
              have hgt := gtf_le (gon j) (los j / 2 ^ ((sent + t) % 11) % 2)
              refine lv_ishr hx hb dL_sends_30 ?_
              refine q_top (show (nI (los j) >>> (nI ((sent + t) % 11) &&& 31)) = nI (los j / 2 ^ ((sent + t) % 11)) from nI_shr (by omega) (by omega)) ?_
              refine lv_iconst (v := nI (1)) hx hb dL_sends_31 (by decide) ?_
              refine lv_iand hx hb dL_sends_32 ?_
              refine q_top (show (nI (los j / 2 ^ ((sent + t) % 11)) &&& nI (1)) = nI ((los j / 2 ^ ((sent + t) % 11)) % 2) from nI_and1 _) ?_
              refine lv_aload_n hx hb dL_sends_33 rfl (lv_at hl 1 rfl) ?_
              refine lv_iconst (v := nI (5)) hx hb dL_sends_34 (by decide) ?_
              refine lv_iload hx hb dL_sends_35 (lv_at hl 4 rfl) ?_
              refine lv_imul hx hb dL_sends_37 ?_
              refine q_top (show (nI (5) * nI (j)) = nI (5 * j) from pk_mul _ _) ?_
              refine lv_iconst (v := nI (4)) hx hb dL_sends_38 (by decide) ?_
              refine lv_iadd hx hb dL_sends_39 ?_
              refine q_top (show (nI (5 * j) + nI (4)) = nI ((5 * j) + 4) from nI_add _ _) ?_
              refine q_iald (f := (rA los wai (snd1 j (sent + t) los gon (sndM rc sent los gon set t)) bad gon)) (j := (5 * j) + 4) hx hb hK hP 2 0 rfl rfl (by omega) (by decide) dL_sends_40 ?_
              refine q_top (show nI ((rA los wai (snd1 j (sent + t) los gon (sndM rc sent los gon set t)) bad gon) ((5 * j) + 4)) = nI (gon j) from congrArg nI (rA_4 _ _ _ _ _ _)) ?_
              refine lv_ior hx hb dL_sends_41 ?_
              refine q_top (show (nI ((los j / 2 ^ ((sent + t) % 11)) % 2) ||| nI (gon j)) = nI (((los j / 2 ^ ((sent + t) % 11)) % 2) ||| (gon j)) from nI_or _ _) ?_
              refine lv_iconst (v := nI (1)) hx hb dL_sends_42 (by decide) ?_
              refine lv_ixor hx hb dL_sends_43 ?_
              refine q_top (show (nI (((los j / 2 ^ ((sent + t) % 11)) % 2) ||| (gon j)) ^^^ nI (1)) = nI (gtf (gon j) (los j / 2 ^ ((sent + t) % 11) % 2)) from by rw [nI_xor, gtf_eq hg9 (by omega)]) ?_
              refine lv_istore (lv' := [(5, .int (nI (gtf (gon j) (los j / 2 ^ ((sent + t) % 11) % 2)))), (0, .ref (q0)), (1, .ref (q2)), (2, .int (nI (mn))), (3, .int (nI (t))), (4, .int (nI (j)))]) hx hb dL_sends_44 hl (by decide) rfl (fun ls hl => ?_)
              refine lv_aload_n hx hb dL_sends_46 rfl (lv_at hl 2 rfl) ?_
              refine lv_iconst (v := nI (5)) hx hb dL_sends_47 (by decide) ?_
              refine lv_iload hx hb dL_sends_48 (lv_at hl 5 rfl) ?_
              refine lv_imul hx hb dL_sends_50 ?_
              refine q_top (show (nI (5) * nI (j)) = nI (5 * j) from pk_mul _ _) ?_
              refine lv_iconst (v := nI (2)) hx hb dL_sends_51 (by decide) ?_
              refine lv_iadd hx hb dL_sends_52 ?_
              refine q_top (show (nI (5 * j) + nI (2)) = nI ((5 * j) + 2) from nI_add _ _) ?_
              refine lv_dup2_11 hx hb dL_sends_53 rfl rfl ?_
              refine q_iald (f := (rA los wai (snd1 j (sent + t) los gon (sndM rc sent los gon set t)) bad gon)) (j := (5 * j) + 2) hx hb hK hP 2 0 rfl rfl (by omega) (by decide) dL_sends_54 ?_
              refine q_top (show nI ((rA los wai (snd1 j (sent + t) los gon (sndM rc sent los gon set t)) bad gon) ((5 * j) + 2)) = nI ((snd1 j (sent + t) los gon (sndM rc sent los gon set t)) j) from congrArg nI (rA_2 _ _ _ _ _ _)) ?_
              refine lv_iload hx hb dL_sends_55 (lv_at hl 0 rfl) ?_
              refine lv_aload_n hx hb dL_sends_57 rfl (lv_at hl 1 rfl) ?_
              refine lv_iconst (v := nI (2)) hx hb dL_sends_58 (by decide) ?_
              refine q_iald (f := (nA k pat (sent + t) rc rep kept)) (j := 2) hx hb hK hP 0 0 rfl rfl (by decide) (by decide) dL_sends_59 ?_
              refine q_top (show nI ((nA k pat (sent + t) rc rep kept) 2) = nI (sent + t) from rfl) ?_
              refine lv_bipush (v := nI (16)) hx hb dL_sends_60 (by decide) ?_
              refine lv_irem hx hb dL_sends_62 (by decide) ?_
              refine q_top (show (nI (sent + t) - nI (sent + t) / nI (16) * nI (16)) = nI ((sent + t) % 16) from pk_rem (by omega) (by decide) (by decide)) ?_
              refine lv_ishl hx hb dL_sends_63 ?_
              refine q_top (show (nI (gtf (gon j) (los j / 2 ^ ((sent + t) % 11) % 2)) <<< (nI ((sent + t) % 16) &&& 31)) = nI (gtf (gon j) (los j / 2 ^ ((sent + t) % 11) % 2) * 2 ^ ((sent + t) % 16)) from nI_shl (by omega) (by have := Nat.mul_le_mul hgt hpw; omega)) ?_
              refine lv_ior hx hb dL_sends_64 ?_
              refine q_top (show (nI ((snd1 j (sent + t) los gon (sndM rc sent los gon set t)) j) ||| nI (gtf (gon j) (los j / 2 ^ ((sent + t) % 11) % 2) * 2 ^ ((sent + t) % 16))) = nI (((snd1 j (sent + t) los gon (sndM rc sent los gon set t)) j) ||| (gtf (gon j) (los j / 2 ^ ((sent + t) % 11) % 2) * 2 ^ ((sent + t) % 16))) from nI_or _ _) ?_
              refine q_iast (f := (rA los wai (snd1 j (sent + t) los gon (sndM rc sent los gon set t)) bad gon)) (j := (5 * j) + 2) (y := ((snd1 j (sent + t) los gon (sndM rc sent los gon set t)) j) ||| (gtf (gon j) (los j / 2 ^ ((sent + t) % 11) % 2) * 2 ^ ((sent + t) % 16))) hx hb hK hP hD hS 2 0 rfl rfl (by omega) (by decide) dL_sends_65 (fun H locs hP hD hS => ?_)
              have hP : va_P D vwCl (wT cI q0 q1 q2 (nA k pat (sent + t) rc rep kept) dat (un (rA los wai (snd1 j (sent + t) los gon (sndM rc sent los gon set t)) bad gon) ((5 * j) + 2) (((snd1 j (sent + t) los gon (sndM rc sent los gon set t)) j) ||| (gtf (gon j) (los j / 2 ^ ((sent + t) % 11) % 2) * 2 ^ ((sent + t) % 16))))) H := hP
              have hD : va_D A (wT cI q0 q1 q2 (nA k pat (sent + t) rc rep kept) dat (un (rA los wai (snd1 j (sent + t) los gon (sndM rc sent los gon set t)) bad gon) ((5 * j) + 2) (((snd1 j (sent + t) los gon (sndM rc sent los gon set t)) j) ||| (gtf (gon j) (los j / 2 ^ ((sent + t) % 11) % 2) * 2 ^ ((sent + t) % 16))))) := hD
              rw [unR_2] at hP hD
              have eW : (wT cI q0 q1 q2 (nA k pat (sent + t) rc rep kept) dat (rA los wai (un (snd1 j (sent + t) los gon (sndM rc sent los gon set t)) j (((snd1 j (sent + t) los gon (sndM rc sent los gon set t)) j) ||| (gtf (gon j) (los j / 2 ^ ((sent + t) % 11) % 2) * 2 ^ ((sent + t) % 16)))) bad gon)) = (wT cI q0 q1 q2 (nA k pat (sent + t) rc rep kept) dat (rA los wai (snd1 (j + 1) (sent + t) los gon (sndM rc sent los gon set t)) bad gon)) := by rw [snd1_g]
              rw [eW] at hP hD
              clear eW
              refine lv_iinc (v := nI (j + 1)) (lv' := [(4, .int (nI (j + 1))), (5, .int (nI (gtf (gon j) (los j / 2 ^ ((sent + t) % 11) % 2)))), (0, .ref (q0)), (1, .ref (q2)), (2, .int (nI (mn))), (3, .int (nI (t)))]) hx hb dL_sends_66 hl (k := 5) rfl (show nI (j) + Int32.ofInt 1 = nI (j + 1) from nI_add (j) 1) (by decide) rfl (fun ls hl => ?_)
              refine lv_goto (tgt := 10) hx hb dL_sends_69 (by decide) ?_
              exact ih10_3 (j + 1) (by omega) (by omega) _ _ hP hD hS ls (lv_sub hl [2, 3, 4, 5, 0] rfl)
        have eW : (wT cI q0 q1 q2 (nA k pat (sent + t) rc rep kept) dat (rA los wai (sndM rc sent los gon set t) bad gon)) = (wT cI q0 q1 q2 (nA k pat (sent + t) rc rep kept) dat (rA los wai (snd1 0 (sent + t) los gon (sndM rc sent los gon set t)) bad gon)) := by rw [snd1_0]
        rw [eW] at hP hD
        clear eW
        exact L10_3 _ (0) (Nat.lt_succ_self _) (by omega) _ _ hP hD hS ls (lv_sub hl [1, 2, 3, 4, 0] rfl)
  exact L2_1 _ (0) (Nat.lt_succ_self _) (by omega) _ _ hP hD hS ls (lv_sub hl [1, 2, 3, 0] rfl)

set_option maxHeartbeats 4000000 in
set_option maxRecDepth 100000 in
theorem c_L_rounds (l : Launch) (D : va_G) (cI cZ cQ cL : ClassId) (q0 : Nat) (q1 : Nat) (q2 : Nat) (k : Nat) (pat : Nat) (sent : Nat) (rc : Nat) (rep : Nat) (kept : Nat) (dat : Nat → B8) (los : Nat → Nat) (wai : Nat → Nat) (set : Nat → Nat) (bad : Nat → Nat) (gon : Nat → Nat) (sz : Nat) (hrc : rc ≤ 6) (hse : sent ≤ 10000) (hlos : ∀ r, r < 6 → los r ≤ 2047) (hwai : ∀ r, r < 6 → wai r ≤ 20) (hset : ∀ r, r < 6 → set r < 65536) (hgon : ∀ r, r < 6 → gon r ≤ 1) (hbad : ∀ r, r < 6 → bad r ≤ 20) (hk8 : k ≤ 8) (hpa : pat ≤ 20) (hre : rep < 2 ^ 20) (hke : kept < 2 ^ 20) : Met l yL_rounds wsL_rounds ({ frames := 1, cells := 1, slots := 6, locals := 25 } : Room) (PW D (TY cI cZ cQ cL) (wT cI q0 q1 q2 (nA k pat sent rc rep kept) dat (rA los wai set bad gon)) sz [.ref (q0), .ref (q2)]) (QI D (va_A (wT cI q0 q1 q2 (nA k pat sent rc rep kept) dat (rA los wai set bad gon)) sz) (fun z9 (_ : Unit) => z9 = nI (mxn (ndf k set gon) rc)) (fun _ => (wT cI q0 q1 q2 (nA k pat (sent + mxn (ndf k set gon) rc) rc (rep + cnt (pR (ndf k set gon) wai rc) rc) (kept + cnt (pK (ndf k set gon) wai rc) rc)) dat (rA los wai (sndM rc sent los gon set (mxn (ndf k set gon) rc)) (bdB rc k (sndM rc sent los gon set (mxn (ndf k set gon) rc)) gon bad) (bdG rc k pat (sndM rc sent los gon set (mxn (ndf k set gon) rc)) gon bad))))) 1 6 (va_A (wT cI q0 q1 q2 (nA k pat sent rc rep kept) dat (rA los wai set bad gon)) sz) := by
  refine Met.ofW (cc := cL_rounds) (maxL := 7) (ret := (some .int)) (by decide) rfl ?_
  intro p e s m args below meth c s₁ B hml hv
  obtain ⟨rfl, hsz, hP, hK, hD0, hN⟩ := hv
  have hx := B.exec
  have hb := B.bytes
  have hr := B.returns
  have hts := atoms_spec (ws := wsL_rounds) B.pre
  have hown : s.vm.findClass RL = some m.cls := findClass_of_methodNamed B.named
  have hlocks := B.notSynchronized
  subst hsz
  have hD := hD0.self (sz := s.heap.size)
  generalize hAe : va_A (wT cI q0 q1 q2 (nA k pat sent rc rep kept) dat (rA los wai set bad gon)) s.heap.size = A at hD ⊢
  have hA : ∀ q : Nat, s.heap.size ≤ q → A q := fun q h => by rw [← hAe]; exact Or.inr h
  have hS : va_S A s.heap s.heap [] := va_S.rf
  have hl := lv_entry ([.ref (q0), .ref (q2)]) (n := 7) (Nat.le_of_ble_eq_true rfl)
  rw [lg_entry_eq]
  generalize (lg_sl ([.ref (q0), .ref (q2)]) ++ List.replicate (7 - (lg_sl ([.ref (q0), .ref (q2)])).length) Slot.unset).toArray = ls at hl ⊢
  have hl : lv_has ls 7 [(0, .ref (q0)), (1, .ref (q2))] := hl
  have hnd : ∀ r, ndf k set gon r ≤ 8 := nd8_le hk8
  have hmx9 := mxn_le hnd rc
  have hS2 : ∀ r, r < 6 → sndM rc sent los gon set (mxn (ndf k set gon) rc) r < 65536 := sndM_lt hset _
  refine lv_bipush (v := nI (6)) hx hb dL_rounds_0 (by decide) ?_
  refine va_newa (atype := .int) hx hb (hts (.arrayClass .int) (List.mem_of_getElem? (i := 1) rfl)) rfl hK hP hD hS hA (a0 := (6, .inl (nF (fun _ => 0)))) (fun c9 => nF0 c9 6) (by decide) (by decide) (by decide) (by decide) (by decide) dL_rounds_2 (fun qn cA H hK2 hP hD hS => ?_)
  have eA : cI = cA := (tys_I hK hK2).symm
  subst eA
  have hS := hS
  have hP : va_P D vwCl ((wT cI q0 q1 q2 (nA k pat sent rc rep kept) dat (rA los wai set bad gon)) ++ [(qn, .inl (cI, 6, .inl (nF ((fun _ => 0)))))]) H := hP
  have hD : va_D A ((wT cI q0 q1 q2 (nA k pat sent rc rep kept) dat (rA los wai set bad gon)) ++ [(qn, .inl (cI, 6, .inl (nF ((fun _ => 0)))))]) := hD
  refine lv_astore_n (lv' := [(2, .ref (qn)), (0, .ref (q0)), (1, .ref (q2))]) hx hb dL_rounds_4 rfl hl (by decide) rfl (fun ls hl => ?_)
  refine lv_iconst (v := nI (0)) hx hb dL_rounds_5 (by decide) ?_
  refine lv_istore_n (lv' := [(3, .int (nI (0))), (2, .ref (qn)), (0, .ref (q0)), (1, .ref (q2))]) hx hb dL_rounds_6 rfl hl (by decide) rfl (fun ls hl => ?_)
  refine lv_iconst (v := nI (0)) hx hb dL_rounds_7 (by decide) ?_
  refine lv_istore (lv' := [(4, .int (nI (0))), (3, .int (nI (0))), (2, .ref (qn)), (0, .ref (q0)), (1, .ref (q2))]) hx hb dL_rounds_8 hl (by decide) rfl (fun ls hl => ?_)
  have L10_1 : ∀ (n10_1 : Nat) (j : Nat), 7 - j < n10_1 → (j ≤ rc) → ∀ (H : Heap) (locs : List Loc), va_P D vwCl ((wT cI q0 q1 q2 (nA k pat sent rc rep kept) dat (rA los wai set bad gon)) ++ [(qn, .inl (cI, 6, .inl (nF (npf (ndf k set gon) j))))]) H → va_D A ((wT cI q0 q1 q2 (nA k pat sent rc rep kept) dat (rA los wai set bad gon)) ++ [(qn, .inl (cI, 6, .inl (nF (npf (ndf k set gon) j))))]) → va_S A s.heap H locs → ∀ (ls : Array Slot), lv_has ls 7 [(0, .ref (q0)), (1, .ref (q2)), (2, .ref (qn)), (3, .int (nI (mxn (ndf k set gon) j))), (4, .int (nI (j)))] → W p l e (headSpec wsL_rounds ({ frames := 1, cells := 1, slots := 6, locals := 25 } : Room)).room s m ([.ref (q0), .ref (q2)] : List Value).toArray below meth c H locs 1 6 (MQ below (QI D A (fun z9 (_ : Unit) => z9 = nI (mxn (ndf k set gon) rc)) (fun _ => (wT cI q0 q1 q2 (nA k pat (sent + mxn (ndf k set gon) rc) rc (rep + cnt (pR (ndf k set gon) wai rc) rc) (kept + cnt (pK (ndf k set gon) wai rc) rc)) dat (rA los wai (sndM rc sent los gon set (mxn (ndf k set gon) rc)) (bdB rc k (sndM rc sent los gon set (mxn (ndf k set gon) rc)) gon bad) (bdG rc k pat (sndM rc sent los gon set (mxn (ndf k set gon) rc)) gon bad))))) ([.ref (q0), .ref (q2)] : List Value).toArray s 1 6 A) (F0 m 10 ls []) := by
    intro n10_1
    induction n10_1 with
    | zero =>
      intro j hn10_1
      exact absurd hn10_1 (Nat.not_lt_zero _)
    | succ n10_1 ih10_1 =>
      intro j hn10_1 hj H locs hP hD hS ls hl
      refine lv_iload hx hb dL_rounds_10 (lv_at hl 4 rfl) ?_
      refine lv_aload_n hx hb dL_rounds_12 rfl (lv_at hl 0 rfl) ?_
      refine lv_iconst (v := nI (3)) hx hb dL_rounds_13 (by decide) ?_
      refine q_iald (f := (nA k pat sent rc rep kept)) (j := 3) hx hb hK hP 0 0 rfl rfl (by decide) (by decide) dL_rounds_14 ?_
      refine q_top (show nI ((nA k pat sent rc rep kept) 3) = nI (rc) from rfl) ?_
      refine q_icmp_ge (u := ((j : Nat) : Int)) (v := ((rc : Nat) : Int)) (tgt := 68) hx hb dL_rounds_15 (by decide) (nI_toInt (by omega)) (nI_toInt (by omega)) (fun c_15 => ?_) (fun c_15 => ?_)
      · obtain rfl : rc = j := by omega
        refine lv_iconst (v := nI (0)) hx hb dL_rounds_68 (by decide) ?_
        refine lv_istore (lv' := [(4, .int (nI (0))), (0, .ref (q0)), (1, .ref (q2)), (2, .ref (qn)), (3, .int (nI (mxn (ndf k set gon) rc)))]) hx hb dL_rounds_69 hl (by decide) rfl (fun ls hl => ?_)
        have L71_3 : ∀ (n71_3 : Nat) (j : Nat), 7 - j < n71_3 → (j ≤ rc) → ∀ (H : Heap) (locs : List Loc), va_P D vwCl ((wT cI q0 q1 q2 (nA k pat sent rc (rep + cnt (pR (ndf k set gon) wai rc) j) (kept + cnt (pK (ndf k set gon) wai rc) j)) dat (rA los wai set bad gon)) ++ [(qn, .inl (cI, 6, .inl (nF (npf (ndf k set gon) rc))))]) H → va_D A ((wT cI q0 q1 q2 (nA k pat sent rc (rep + cnt (pR (ndf k set gon) wai rc) j) (kept + cnt (pK (ndf k set gon) wai rc) j)) dat (rA los wai set bad gon)) ++ [(qn, .inl (cI, 6, .inl (nF (npf (ndf k set gon) rc))))]) → va_S A s.heap H locs → ∀ (ls : Array Slot), lv_has ls 7 [(0, .ref (q0)), (1, .ref (q2)), (2, .ref (qn)), (3, .int (nI (mxn (ndf k set gon) rc))), (4, .int (nI (j)))] → W p l e (headSpec wsL_rounds ({ frames := 1, cells := 1, slots := 6, locals := 25 } : Room)).room s m ([.ref (q0), .ref (q2)] : List Value).toArray below meth c H locs 1 6 (MQ below (QI D A (fun z9 (_ : Unit) => z9 = nI (mxn (ndf k set gon) rc)) (fun _ => (wT cI q0 q1 q2 (nA k pat (sent + mxn (ndf k set gon) rc) rc (rep + cnt (pR (ndf k set gon) wai rc) rc) (kept + cnt (pK (ndf k set gon) wai rc) rc)) dat (rA los wai (sndM rc sent los gon set (mxn (ndf k set gon) rc)) (bdB rc k (sndM rc sent los gon set (mxn (ndf k set gon) rc)) gon bad) (bdG rc k pat (sndM rc sent los gon set (mxn (ndf k set gon) rc)) gon bad))))) ([.ref (q0), .ref (q2)] : List Value).toArray s 1 6 A) (F0 m 71 ls []) := by
          intro n71_3
          induction n71_3 with
          | zero =>
            intro j hn71_3
            exact absurd hn71_3 (Nat.not_lt_zero _)
          | succ n71_3 ih71_3 =>
            intro j hn71_3 hj H locs hP hD hS ls hl
            refine lv_iload hx hb dL_rounds_71 (lv_at hl 4 rfl) ?_
            refine lv_aload_n hx hb dL_rounds_73 rfl (lv_at hl 0 rfl) ?_
            refine lv_iconst (v := nI (3)) hx hb dL_rounds_74 (by decide) ?_
            refine q_iald (f := (nA k pat sent rc (rep + cnt (pR (ndf k set gon) wai rc) j) (kept + cnt (pK (ndf k set gon) wai rc) j))) (j := 3) hx hb hK hP 0 0 rfl rfl (by decide) (by decide) dL_rounds_75 ?_
            refine q_top (show nI ((nA k pat sent rc (rep + cnt (pR (ndf k set gon) wai rc) j) (kept + cnt (pK (ndf k set gon) wai rc) j)) 3) = nI (rc) from rfl) ?_
            refine q_icmp_ge (u := ((j : Nat) : Int)) (v := ((rc : Nat) : Int)) (tgt := 191) hx hb dL_rounds_76 (by decide) (nI_toInt (by omega)) (nI_toInt (by omega)) (fun c_76 => ?_) (fun c_76 => ?_)
            · obtain rfl : rc = j := by omega
              refine lv_aload_n hx hb dL_rounds_191 rfl (lv_at hl 0 rfl) ?_
              refine lv_aload_n hx hb dL_rounds_192 rfl (lv_at hl 1 rfl) ?_
              refine lv_iload_n hx hb dL_rounds_193 rfl (lv_at hl 3 rfl) ?_
              have hPc := hP.sub (ws' := (wT cI q0 q1 q2 (nA k pat sent rc ((rep + cnt (pR (ndf k set gon) wai rc) rc)) ((kept + cnt (pK (ndf k set gon) wai rc) rc))) dat (rA los wai set bad gon))) [0, 1, 2] rfl
              have hDc := hD.sub (ws' := (wT cI q0 q1 q2 (nA k pat sent rc ((rep + cnt (pR (ndf k set gon) wai rc) rc)) ((kept + cnt (pK (ndf k set gon) wai rc) rc))) dat (rA los wai set bad gon))) [0, 1, 2] (by decide) rfl
              refine q_cv (wc := (wT cI q0 q1 q2 (nA k pat sent rc ((rep + cnt (pR (ndf k set gon) wai rc) rc)) ((kept + cnt (pK (ndf k set gon) wai rc) rc))) dat (rA los wai set bad gon))) (wr := (([3] : List Nat).filterMap (fun i => ((wT cI q0 q1 q2 (nA k pat sent rc (rep + cnt (pR (ndf k set gon) wai rc) rc) (kept + cnt (pK (ndf k set gon) wai rc) rc)) dat (rA los wai set bad gon)) ++ [(qn, .inl (cI, 6, .inl (nF (npf (ndf k set gon) rc))))])[i]?))) (w1 := fun _ => (wT cI q0 q1 q2 (nA k pat (sent + (mxn (ndf k set gon) rc)) rc ((rep + cnt (pR (ndf k set gon) wai rc) rc)) ((kept + cnt (pK (ndf k set gon) wai rc) rc))) dat (rA los wai (sndM rc sent los gon set (mxn (ndf k set gon) rc)) bad gon))) (va_runS (As := [.ref (q0), .ref (q2), .int (nI (mxn (ndf k set gon) rc))]) (rest := []) ⟨hx, hb, hml, hown, hts⟩ (c_L_sends l D cI cZ cQ cL (q0) (q1) (q2) (k) (pat) (sent) (rc) (rep + cnt (pR (ndf k set gon) wai rc) rc) (kept + cnt (pK (ndf k set gon) wai rc) rc) (dat) (los) (wai) (set) (bad) (gon) (mxn (ndf k set gon) rc) H.size (hrc) (by omega) (hlos) (hgon)) (va_cwS 3 hts gL_rounds_L_sends rfl rfl rfl hd_L_sends ⟨Nat.le_of_ble_eq_true rfl, Nat.le_of_ble_eq_true rfl⟩) (PW_s hPc hK hDc hN) rfl rfl hl.1 rfl (lv_room (Nat.le_of_ble_eq_true rfl)) dL_rounds_194 ⟨Nat.le_of_ble_eq_true rfl, Nat.le_of_ble_eq_true rfl⟩) hP hD hS hA [0, 1, 2] [3] rfl rfl (by decide) (by decide) (fun u_194 H locs h_194 hP hD hS => ?_)
              have hP := hP.sub (ws' := ((wT cI q0 q1 q2 (nA k pat (sent + (mxn (ndf k set gon) rc)) rc ((rep + cnt (pR (ndf k set gon) wai rc) rc)) ((kept + cnt (pK (ndf k set gon) wai rc) rc))) dat (rA los wai (sndM rc sent los gon set (mxn (ndf k set gon) rc)) bad gon)) ++ [(qn, .inl (cI, 6, .inl (nF (npf (ndf k set gon) rc))))])) [1, 2, 3, 0] rfl
              have hD := hD.sub (ws' := ((wT cI q0 q1 q2 (nA k pat (sent + (mxn (ndf k set gon) rc)) rc ((rep + cnt (pR (ndf k set gon) wai rc) rc)) ((kept + cnt (pK (ndf k set gon) wai rc) rc))) dat (rA los wai (sndM rc sent los gon set (mxn (ndf k set gon) rc)) bad gon)) ++ [(qn, .inl (cI, 6, .inl (nF (npf (ndf k set gon) rc))))])) [1, 2, 3, 0] (by decide) rfl
              refine lv_iconst (v := nI (0)) hx hb dL_rounds_197 (by decide) ?_
              refine lv_istore (lv' := [(4, .int (nI (0))), (0, .ref (q0)), (1, .ref (q2)), (2, .ref (qn)), (3, .int (nI (mxn (ndf k set gon) rc)))]) hx hb dL_rounds_198 hl (by decide) rfl (fun ls hl => ?_)
              have L200_5 : ∀ (n200_5 : Nat) (j : Nat), 7 - j < n200_5 → (j ≤ rc) → ∀ (H : Heap) (locs : List Loc), va_P D vwCl ((wT cI q0 q1 q2 (nA k pat (sent + mxn (ndf k set gon) rc) rc (rep + cnt (pR (ndf k set gon) wai rc) rc) (kept + cnt (pK (ndf k set gon) wai rc) rc)) dat (rA los wai (sndM rc sent los gon set (mxn (ndf k set gon) rc)) (bdB j k (sndM rc sent los gon set (mxn (ndf k set gon) rc)) gon bad) (bdG j k pat (sndM rc sent los gon set (mxn (ndf k set gon) rc)) gon bad))) ++ [(qn, .inl (cI, 6, .inl (nF (npf (ndf k set gon) rc))))]) H → va_D A ((wT cI q0 q1 q2 (nA k pat (sent + mxn (ndf k set gon) rc) rc (rep + cnt (pR (ndf k set gon) wai rc) rc) (kept + cnt (pK (ndf k set gon) wai rc) rc)) dat (rA los wai (sndM rc sent los gon set (mxn (ndf k set gon) rc)) (bdB j k (sndM rc sent los gon set (mxn (ndf k set gon) rc)) gon bad) (bdG j k pat (sndM rc sent los gon set (mxn (ndf k set gon) rc)) gon bad))) ++ [(qn, .inl (cI, 6, .inl (nF (npf (ndf k set gon) rc))))]) → va_S A s.heap H locs → ∀ (ls : Array Slot), lv_has ls 7 [(0, .ref (q0)), (1, .ref (q2)), (2, .ref (qn)), (3, .int (nI (mxn (ndf k set gon) rc))), (4, .int (nI (j)))] → W p l e (headSpec wsL_rounds ({ frames := 1, cells := 1, slots := 6, locals := 25 } : Room)).room s m ([.ref (q0), .ref (q2)] : List Value).toArray below meth c H locs 1 6 (MQ below (QI D A (fun z9 (_ : Unit) => z9 = nI (mxn (ndf k set gon) rc)) (fun _ => (wT cI q0 q1 q2 (nA k pat (sent + mxn (ndf k set gon) rc) rc (rep + cnt (pR (ndf k set gon) wai rc) rc) (kept + cnt (pK (ndf k set gon) wai rc) rc)) dat (rA los wai (sndM rc sent los gon set (mxn (ndf k set gon) rc)) (bdB rc k (sndM rc sent los gon set (mxn (ndf k set gon) rc)) gon bad) (bdG rc k pat (sndM rc sent los gon set (mxn (ndf k set gon) rc)) gon bad))))) ([.ref (q0), .ref (q2)] : List Value).toArray s 1 6 A) (F0 m 200 ls []) := by
                intro n200_5
                induction n200_5 with
                | zero =>
                  intro j hn200_5
                  exact absurd hn200_5 (Nat.not_lt_zero _)
                | succ n200_5 ih200_5 =>
                  intro j hn200_5 hj H locs hP hD hS ls hl
                  refine lv_iload hx hb dL_rounds_200 (lv_at hl 4 rfl) ?_
                  refine lv_aload_n hx hb dL_rounds_202 rfl (lv_at hl 0 rfl) ?_
                  refine lv_iconst (v := nI (3)) hx hb dL_rounds_203 (by decide) ?_
                  refine q_iald (f := (nA k pat (sent + mxn (ndf k set gon) rc) rc (rep + cnt (pR (ndf k set gon) wai rc) rc) (kept + cnt (pK (ndf k set gon) wai rc) rc))) (j := 3) hx hb hK hP 0 0 rfl rfl (by decide) (by decide) dL_rounds_204 ?_
                  refine q_top (show nI ((nA k pat (sent + mxn (ndf k set gon) rc) rc (rep + cnt (pR (ndf k set gon) wai rc) rc) (kept + cnt (pK (ndf k set gon) wai rc) rc)) 3) = nI (rc) from rfl) ?_
                  refine q_icmp_ge (u := ((j : Nat) : Int)) (v := ((rc : Nat) : Int)) (tgt := 287) hx hb dL_rounds_205 (by decide) (nI_toInt (by omega)) (nI_toInt (by omega)) (fun c_205 => ?_) (fun c_205 => ?_)
                  · obtain rfl : rc = j := by omega
                    refine lv_iload_n hx hb dL_rounds_287 rfl (lv_at hl 3 rfl) ?_
                    have hP := jP_l hP
                    have hD := jD_l hD
                    have hP : va_P D vwCl (wT cI q0 q1 q2 (nA k pat (sent + mxn (ndf k set gon) rc) rc (rep + cnt (pR (ndf k set gon) wai rc) rc) (kept + cnt (pK (ndf k set gon) wai rc) rc)) dat (rA los wai (sndM rc sent los gon set (mxn (ndf k set gon) rc)) (bdB rc k (sndM rc sent los gon set (mxn (ndf k set gon) rc)) gon bad) (bdG rc k pat (sndM rc sent los gon set (mxn (ndf k set gon) rc)) gon bad))) H := hP
                    have hD : va_D A (wT cI q0 q1 q2 (nA k pat (sent + mxn (ndf k set gon) rc) rc (rep + cnt (pR (ndf k set gon) wai rc) rc) (kept + cnt (pK (ndf k set gon) wai rc) rc)) dat (rA los wai (sndM rc sent los gon set (mxn (ndf k set gon) rc)) (bdB rc k (sndM rc sent los gon set (mxn (ndf k set gon) rc)) gon bad) (bdG rc k pat (sndM rc sent los gon set (mxn (ndf k set gon) rc)) gon bad))) := hD
                    exact W.iret (v := nI (mxn (ndf k set gon) rc)) hx hb hr (fun t ht hW => ⟨⟨_, (), rfl, (by rfl), by rw [ht]; exact hP, hD⟩, hS.F ht⟩) hS.2.2 dL_rounds_288
                  · have hg9 := hgon j (by omega)
                    have hb9 := hbad j (by omega)
                    have hp9 := sndM_pc rc sent los gon set j (mxn (ndf k set gon) rc)
                    have hn8 := hnd j
                    have hns := hS2 j (by omega)
                    refine lv_aload_n hx hb dL_rounds_208 rfl (lv_at hl 2 rfl) ?_
                    refine lv_iload hx hb dL_rounds_209 (lv_at hl 4 rfl) ?_
                    refine q_iald (f := (npf (ndf k set gon) rc)) (j := j) hx hb hK hP 3 0 rfl rfl (by omega) (by decide) dL_rounds_211 ?_
                    refine q_top (show nI ((npf (ndf k set gon) rc) j) = nI (ndf k set gon j) from congrArg nI (npf_at (by omega))) ?_
                    refine q_if_le (u := ((ndf k set gon j : Nat) : Int)) (tgt := 229) hx hb dL_rounds_212 (by decide) (nI_toInt (by omega)) (fun c_212 => ?_) (fun c_212 => ?_)
                    · have hC : ¬ (gon j = 0 ∧ 0 < k - pc (sndM rc sent los gon set (mxn (ndf k set gon) rc) j)) := fun z => by have e7 : ndf k set gon j = k - pc (set j) := if_pos z.1; omega
                      refine lv_iconst (v := nI (0)) hx hb dL_rounds_229 (by decide) ?_
                      refine lv_istore (lv' := [(5, .int (nI (0))), (0, .ref (q0)), (1, .ref (q2)), (2, .ref (qn)), (3, .int (nI (mxn (ndf k set gon) rc))), (4, .int (nI (j)))]) hx hb dL_rounds_230 hl (by decide) rfl (fun ls hl => ?_)
                      refine lv_aload_n hx hb dL_rounds_232 rfl (lv_at hl 2 rfl) ?_
                      refine lv_iconst (v := nI (5)) hx hb dL_rounds_233 (by decide) ?_
                      refine lv_iload hx hb dL_rounds_234 (lv_at hl 5 rfl) ?_
                      refine lv_imul hx hb dL_rounds_236 ?_
                      refine q_top (show (nI (5) * nI (j)) = nI (5 * j) from pk_mul _ _) ?_
                      refine lv_iconst (v := nI (3)) hx hb dL_rounds_237 (by decide) ?_
                      refine lv_iadd hx hb dL_rounds_238 ?_
                      refine q_top (show (nI (5 * j) + nI (3)) = nI ((5 * j) + 3) from nI_add _ _) ?_
                      refine lv_dup2_11 hx hb dL_rounds_239 rfl rfl ?_
                      refine q_iald (f := (rA los wai (sndM rc sent los gon set (mxn (ndf k set gon) rc)) (bdB j k (sndM rc sent los gon set (mxn (ndf k set gon) rc)) gon bad) (bdG j k pat (sndM rc sent los gon set (mxn (ndf k set gon) rc)) gon bad))) (j := (5 * j) + 3) hx hb hK hP 2 0 rfl rfl (by omega) (by decide) dL_rounds_240 ?_
                      refine q_top (show nI ((rA los wai (sndM rc sent los gon set (mxn (ndf k set gon) rc)) (bdB j k (sndM rc sent los gon set (mxn (ndf k set gon) rc)) gon bad) (bdG j k pat (sndM rc sent los gon set (mxn (ndf k set gon) rc)) gon bad)) ((5 * j) + 3)) = nI ((bdB j k (sndM rc sent los gon set (mxn (ndf k set gon) rc)) gon bad) j) from congrArg nI (rA_3 _ _ _ _ _ _)) ?_
                      refine q_top (show nI ((bdB j k (sndM rc sent los gon set (mxn (ndf k set gon) rc)) gon bad) j) = nI (bad j) from congrArg nI (bdB_at _ _ _ _ _)) ?_
                      refine lv_iload hx hb dL_rounds_241 (lv_at hl 0 rfl) ?_
                      refine lv_iadd hx hb dL_rounds_243 ?_
                      refine q_top (show (nI (bad j) + nI (0)) = nI (bad j + 0) from nI_add _ _) ?_
                      refine q_iast (f := (rA los wai (sndM rc sent los gon set (mxn (ndf k set gon) rc)) (bdB j k (sndM rc sent los gon set (mxn (ndf k set gon) rc)) gon bad) (bdG j k pat (sndM rc sent los gon set (mxn (ndf k set gon) rc)) gon bad))) (j := (5 * j) + 3) (y := bad j + 0) hx hb hK hP hD hS 2 0 rfl rfl (by omega) (by decide) dL_rounds_244 (fun H locs hP hD hS => ?_)
                      have hP : va_P D vwCl ((wT cI q0 q1 q2 (nA k pat (sent + mxn (ndf k set gon) rc) rc (rep + cnt (pR (ndf k set gon) wai rc) rc) (kept + cnt (pK (ndf k set gon) wai rc) rc)) dat (un (rA los wai (sndM rc sent los gon set (mxn (ndf k set gon) rc)) (bdB j k (sndM rc sent los gon set (mxn (ndf k set gon) rc)) gon bad) (bdG j k pat (sndM rc sent los gon set (mxn (ndf k set gon) rc)) gon bad)) ((5 * j) + 3) (bad j + 0))) ++ [(qn, .inl (cI, 6, .inl (nF (npf (ndf k set gon) rc))))]) H := hP
                      have hD : va_D A ((wT cI q0 q1 q2 (nA k pat (sent + mxn (ndf k set gon) rc) rc (rep + cnt (pR (ndf k set gon) wai rc) rc) (kept + cnt (pK (ndf k set gon) wai rc) rc)) dat (un (rA los wai (sndM rc sent los gon set (mxn (ndf k set gon) rc)) (bdB j k (sndM rc sent los gon set (mxn (ndf k set gon) rc)) gon bad) (bdG j k pat (sndM rc sent los gon set (mxn (ndf k set gon) rc)) gon bad)) ((5 * j) + 3) (bad j + 0))) ++ [(qn, .inl (cI, 6, .inl (nF (npf (ndf k set gon) rc))))]) := hD
                      rw [unR_3] at hP hD
                      refine lv_aload_n hx hb dL_rounds_245 rfl (lv_at hl 2 rfl) ?_
                      refine lv_iconst (v := nI (5)) hx hb dL_rounds_246 (by decide) ?_
                      refine lv_iload hx hb dL_rounds_247 (lv_at hl 5 rfl) ?_
                      refine lv_imul hx hb dL_rounds_249 ?_
                      refine q_top (show (nI (5) * nI (j)) = nI (5 * j) from pk_mul _ _) ?_
                      refine lv_iconst (v := nI (4)) hx hb dL_rounds_250 (by decide) ?_
                      refine lv_iadd hx hb dL_rounds_251 ?_
                      refine q_top (show (nI (5 * j) + nI (4)) = nI ((5 * j) + 4) from nI_add _ _) ?_
                      refine lv_dup2_11 hx hb dL_rounds_252 rfl rfl ?_
                      refine q_iald (f := (rA los wai (sndM rc sent los gon set (mxn (ndf k set gon) rc)) (un (bdB j k (sndM rc sent los gon set (mxn (ndf k set gon) rc)) gon bad) j (bad j + 0)) (bdG j k pat (sndM rc sent los gon set (mxn (ndf k set gon) rc)) gon bad))) (j := (5 * j) + 4) hx hb hK hP 2 0 rfl rfl (by omega) (by decide) dL_rounds_253 ?_
                      refine q_top (show nI ((rA los wai (sndM rc sent los gon set (mxn (ndf k set gon) rc)) (un (bdB j k (sndM rc sent los gon set (mxn (ndf k set gon) rc)) gon bad) j (bad j + 0)) (bdG j k pat (sndM rc sent los gon set (mxn (ndf k set gon) rc)) gon bad)) ((5 * j) + 4)) = nI ((bdG j k pat (sndM rc sent los gon set (mxn (ndf k set gon) rc)) gon bad) j) from congrArg nI (rA_4 _ _ _ _ _ _)) ?_
                      refine q_top (show nI ((bdG j k pat (sndM rc sent los gon set (mxn (ndf k set gon) rc)) gon bad) j) = nI (gon j) from congrArg nI (bdG_at _ _ _ _ _ _)) ?_
                      refine lv_iload hx hb dL_rounds_254 (lv_at hl 0 rfl) ?_
                      refine lv_iconst (v := nI (1)) hx hb dL_rounds_256 (by decide) ?_
                      refine q_icmp_ne (u := ((0 : Nat) : Int)) (v := ((1 : Nat) : Int)) (tgt := 278) hx hb dL_rounds_257 (by decide) (nI_toInt (by omega)) (nI_toInt (by omega)) (fun _ => ?_) (fun c_257 => absurd c_257 (by decide))
                      refine lv_iconst (v := nI (0)) hx hb dL_rounds_278 (by decide) ?_
                      refine lv_ior hx hb dL_rounds_279 ?_
                      refine q_top (show (nI (gon j) ||| nI (0)) = nI (gon j) from by rw [nI_or, Nat.or_zero]) ?_
                      refine q_iast (f := (rA los wai (sndM rc sent los gon set (mxn (ndf k set gon) rc)) (un (bdB j k (sndM rc sent los gon set (mxn (ndf k set gon) rc)) gon bad) j (bad j + 0)) (bdG j k pat (sndM rc sent los gon set (mxn (ndf k set gon) rc)) gon bad))) (j := (5 * j) + 4) (y := gon j) hx hb hK hP hD hS 2 0 rfl rfl (by omega) (by decide) dL_rounds_280 (fun H locs hP hD hS => ?_)
                      have hP : va_P D vwCl ((wT cI q0 q1 q2 (nA k pat (sent + mxn (ndf k set gon) rc) rc (rep + cnt (pR (ndf k set gon) wai rc) rc) (kept + cnt (pK (ndf k set gon) wai rc) rc)) dat (un (rA los wai (sndM rc sent los gon set (mxn (ndf k set gon) rc)) (un (bdB j k (sndM rc sent los gon set (mxn (ndf k set gon) rc)) gon bad) j (bad j + 0)) (bdG j k pat (sndM rc sent los gon set (mxn (ndf k set gon) rc)) gon bad)) ((5 * j) + 4) (gon j))) ++ [(qn, .inl (cI, 6, .inl (nF (npf (ndf k set gon) rc))))]) H := hP
                      have hD : va_D A ((wT cI q0 q1 q2 (nA k pat (sent + mxn (ndf k set gon) rc) rc (rep + cnt (pR (ndf k set gon) wai rc) rc) (kept + cnt (pK (ndf k set gon) wai rc) rc)) dat (un (rA los wai (sndM rc sent los gon set (mxn (ndf k set gon) rc)) (un (bdB j k (sndM rc sent los gon set (mxn (ndf k set gon) rc)) gon bad) j (bad j + 0)) (bdG j k pat (sndM rc sent los gon set (mxn (ndf k set gon) rc)) gon bad)) ((5 * j) + 4) (gon j))) ++ [(qn, .inl (cI, 6, .inl (nF (npf (ndf k set gon) rc))))]) := hD
                      rw [unR_4] at hP hD
                      refine lv_iinc (v := nI (j + 1)) (lv' := [(4, .int (nI (j + 1))), (5, .int (nI (0))), (0, .ref (q0)), (1, .ref (q2)), (2, .ref (qn)), (3, .int (nI (mxn (ndf k set gon) rc)))]) hx hb dL_rounds_281 hl (k := 5) rfl (show nI (j) + Int32.ofInt 1 = nI (j + 1) from nI_add (j) 1) (by decide) rfl (fun ls hl => ?_)
                      refine lv_goto (tgt := 200) hx hb dL_rounds_284 (by decide) ?_
                      have eW : ((wT cI q0 q1 q2 (nA k pat (sent + mxn (ndf k set gon) rc) rc (rep + cnt (pR (ndf k set gon) wai rc) rc) (kept + cnt (pK (ndf k set gon) wai rc) rc)) dat (rA los wai (sndM rc sent los gon set (mxn (ndf k set gon) rc)) (un (bdB j k (sndM rc sent los gon set (mxn (ndf k set gon) rc)) gon bad) j (bad j + 0)) (un (bdG j k pat (sndM rc sent los gon set (mxn (ndf k set gon) rc)) gon bad) j (gon j)))) ++ [(qn, .inl (cI, 6, .inl (nF (npf (ndf k set gon) rc))))]) = ((wT cI q0 q1 q2 (nA k pat (sent + mxn (ndf k set gon) rc) rc (rep + cnt (pR (ndf k set gon) wai rc) rc) (kept + cnt (pK (ndf k set gon) wai rc) rc)) dat (rA los wai (sndM rc sent los gon set (mxn (ndf k set gon) rc)) (bdB (j + 1) k (sndM rc sent los gon set (mxn (ndf k set gon) rc)) gon bad) (bdG (j + 1) k pat (sndM rc sent los gon set (mxn (ndf k set gon) rc)) gon bad))) ++ [(qn, .inl (cI, 6, .inl (nF (npf (ndf k set gon) rc))))]) := by first | rw [bdB_y hC.1 hC.2, bdG_y hC.1 hC.2] | rw [bdB_u, bdG_u, bdB_n hC, bdG_n hC]
                      rw [eW] at hP hD
                      clear eW
                      exact ih200_5 (j + 1) (by omega) (by omega) _ _ hP hD hS ls (lv_sub hl [2, 3, 4, 5, 0] rfl)
                    · skip
                      refine lv_aload_n hx hb dL_rounds_215 rfl (lv_at hl 0 rfl) ?_
                      refine lv_aload_n hx hb dL_rounds_216 rfl (lv_at hl 1 rfl) ?_
                      refine lv_iload hx hb dL_rounds_217 (lv_at hl 4 rfl) ?_
                      have hPc := hP.sub (ws' := (wT cI q0 q1 q2 ((nA k pat (sent + mxn (ndf k set gon) rc) rc (rep + cnt (pR (ndf k set gon) wai rc) rc) (kept + cnt (pK (ndf k set gon) wai rc) rc))) dat ((rA los wai (sndM rc sent los gon set (mxn (ndf k set gon) rc)) (bdB j k (sndM rc sent los gon set (mxn (ndf k set gon) rc)) gon bad) (bdG j k pat (sndM rc sent los gon set (mxn (ndf k set gon) rc)) gon bad))))) [0, 1, 2] rfl
                      have hDc := hD.sub (ws' := (wT cI q0 q1 q2 ((nA k pat (sent + mxn (ndf k set gon) rc) rc (rep + cnt (pR (ndf k set gon) wai rc) rc) (kept + cnt (pK (ndf k set gon) wai rc) rc))) dat ((rA los wai (sndM rc sent los gon set (mxn (ndf k set gon) rc)) (bdB j k (sndM rc sent los gon set (mxn (ndf k set gon) rc)) gon bad) (bdG j k pat (sndM rc sent los gon set (mxn (ndf k set gon) rc)) gon bad))))) [0, 1, 2] (by decide) rfl
                      refine q_csi (va_runS (As := [.ref (q0), .ref (q2), .int (nI (j))]) (rest := []) ⟨hx, hb, hml, hown, hts⟩ (c_L_need l D cI cZ cQ cL (q0) (q1) (q2) ((nA k pat (sent + mxn (ndf k set gon) rc) rc (rep + cnt (pR (ndf k set gon) wai rc) rc) (kept + cnt (pK (ndf k set gon) wai rc) rc))) (dat) ((rA los wai (sndM rc sent los gon set (mxn (ndf k set gon) rc)) (bdB j k (sndM rc sent los gon set (mxn (ndf k set gon) rc)) gon bad) (bdG j k pat (sndM rc sent los gon set (mxn (ndf k set gon) rc)) gon bad))) (k) (sndM rc sent los gon set (mxn (ndf k set gon) rc) j) (j) H.size (rfl) (rA_2 _ _ _ _ _ _) (hk8) (hS2 j (by omega)) (by omega)) (va_cwS 3 hts gL_rounds_L_need rfl rfl rfl hd_L_need ⟨Nat.le_of_ble_eq_true rfl, Nat.le_of_ble_eq_true rfl⟩) (PW_s hPc hK hDc hN) rfl rfl hl.1 rfl (lv_room (Nat.le_of_ble_eq_true rfl)) dL_rounds_219 ⟨Nat.le_of_ble_eq_true rfl, Nat.le_of_ble_eq_true rfl⟩) (fun r_219 hr_219 => ?_)
                      obtain rfl : r_219 = nI (k - pc (sndM rc sent los gon set (mxn (ndf k set gon) rc) j)) := hr_219
                      refine q_if_le (u := ((k - pc (sndM rc sent los gon set (mxn (ndf k set gon) rc) j) : Nat) : Int)) (tgt := 229) hx hb dL_rounds_222 (by decide) (nI_toInt (by omega)) (fun c_222 => ?_) (fun c_222 => ?_)
                      · have hC : ¬ (gon j = 0 ∧ 0 < k - pc (sndM rc sent los gon set (mxn (ndf k set gon) rc) j)) := fun z => by omega
                        refine lv_iconst (v := nI (0)) hx hb dL_rounds_229 (by decide) ?_
                        refine lv_istore (lv' := [(5, .int (nI (0))), (0, .ref (q0)), (1, .ref (q2)), (2, .ref (qn)), (3, .int (nI (mxn (ndf k set gon) rc))), (4, .int (nI (j)))]) hx hb dL_rounds_230 hl (by decide) rfl (fun ls hl => ?_)
                        refine lv_aload_n hx hb dL_rounds_232 rfl (lv_at hl 2 rfl) ?_
                        refine lv_iconst (v := nI (5)) hx hb dL_rounds_233 (by decide) ?_
                        refine lv_iload hx hb dL_rounds_234 (lv_at hl 5 rfl) ?_
                        refine lv_imul hx hb dL_rounds_236 ?_
                        refine q_top (show (nI (5) * nI (j)) = nI (5 * j) from pk_mul _ _) ?_
                        refine lv_iconst (v := nI (3)) hx hb dL_rounds_237 (by decide) ?_
                        refine lv_iadd hx hb dL_rounds_238 ?_
                        refine q_top (show (nI (5 * j) + nI (3)) = nI ((5 * j) + 3) from nI_add _ _) ?_
                        refine lv_dup2_11 hx hb dL_rounds_239 rfl rfl ?_
                        refine q_iald (f := (rA los wai (sndM rc sent los gon set (mxn (ndf k set gon) rc)) (bdB j k (sndM rc sent los gon set (mxn (ndf k set gon) rc)) gon bad) (bdG j k pat (sndM rc sent los gon set (mxn (ndf k set gon) rc)) gon bad))) (j := (5 * j) + 3) hx hb hK hP 2 0 rfl rfl (by omega) (by decide) dL_rounds_240 ?_
                        refine q_top (show nI ((rA los wai (sndM rc sent los gon set (mxn (ndf k set gon) rc)) (bdB j k (sndM rc sent los gon set (mxn (ndf k set gon) rc)) gon bad) (bdG j k pat (sndM rc sent los gon set (mxn (ndf k set gon) rc)) gon bad)) ((5 * j) + 3)) = nI ((bdB j k (sndM rc sent los gon set (mxn (ndf k set gon) rc)) gon bad) j) from congrArg nI (rA_3 _ _ _ _ _ _)) ?_
                        refine q_top (show nI ((bdB j k (sndM rc sent los gon set (mxn (ndf k set gon) rc)) gon bad) j) = nI (bad j) from congrArg nI (bdB_at _ _ _ _ _)) ?_
                        refine lv_iload hx hb dL_rounds_241 (lv_at hl 0 rfl) ?_
                        refine lv_iadd hx hb dL_rounds_243 ?_
                        refine q_top (show (nI (bad j) + nI (0)) = nI (bad j + 0) from nI_add _ _) ?_
                        refine q_iast (f := (rA los wai (sndM rc sent los gon set (mxn (ndf k set gon) rc)) (bdB j k (sndM rc sent los gon set (mxn (ndf k set gon) rc)) gon bad) (bdG j k pat (sndM rc sent los gon set (mxn (ndf k set gon) rc)) gon bad))) (j := (5 * j) + 3) (y := bad j + 0) hx hb hK hP hD hS 2 0 rfl rfl (by omega) (by decide) dL_rounds_244 (fun H locs hP hD hS => ?_)
                        have hP : va_P D vwCl ((wT cI q0 q1 q2 (nA k pat (sent + mxn (ndf k set gon) rc) rc (rep + cnt (pR (ndf k set gon) wai rc) rc) (kept + cnt (pK (ndf k set gon) wai rc) rc)) dat (un (rA los wai (sndM rc sent los gon set (mxn (ndf k set gon) rc)) (bdB j k (sndM rc sent los gon set (mxn (ndf k set gon) rc)) gon bad) (bdG j k pat (sndM rc sent los gon set (mxn (ndf k set gon) rc)) gon bad)) ((5 * j) + 3) (bad j + 0))) ++ [(qn, .inl (cI, 6, .inl (nF (npf (ndf k set gon) rc))))]) H := hP
                        have hD : va_D A ((wT cI q0 q1 q2 (nA k pat (sent + mxn (ndf k set gon) rc) rc (rep + cnt (pR (ndf k set gon) wai rc) rc) (kept + cnt (pK (ndf k set gon) wai rc) rc)) dat (un (rA los wai (sndM rc sent los gon set (mxn (ndf k set gon) rc)) (bdB j k (sndM rc sent los gon set (mxn (ndf k set gon) rc)) gon bad) (bdG j k pat (sndM rc sent los gon set (mxn (ndf k set gon) rc)) gon bad)) ((5 * j) + 3) (bad j + 0))) ++ [(qn, .inl (cI, 6, .inl (nF (npf (ndf k set gon) rc))))]) := hD
                        rw [unR_3] at hP hD
                        refine lv_aload_n hx hb dL_rounds_245 rfl (lv_at hl 2 rfl) ?_
                        refine lv_iconst (v := nI (5)) hx hb dL_rounds_246 (by decide) ?_
                        refine lv_iload hx hb dL_rounds_247 (lv_at hl 5 rfl) ?_
                        refine lv_imul hx hb dL_rounds_249 ?_
                        refine q_top (show (nI (5) * nI (j)) = nI (5 * j) from pk_mul _ _) ?_
                        refine lv_iconst (v := nI (4)) hx hb dL_rounds_250 (by decide) ?_
                        refine lv_iadd hx hb dL_rounds_251 ?_
                        refine q_top (show (nI (5 * j) + nI (4)) = nI ((5 * j) + 4) from nI_add _ _) ?_
                        refine lv_dup2_11 hx hb dL_rounds_252 rfl rfl ?_
                        refine q_iald (f := (rA los wai (sndM rc sent los gon set (mxn (ndf k set gon) rc)) (un (bdB j k (sndM rc sent los gon set (mxn (ndf k set gon) rc)) gon bad) j (bad j + 0)) (bdG j k pat (sndM rc sent los gon set (mxn (ndf k set gon) rc)) gon bad))) (j := (5 * j) + 4) hx hb hK hP 2 0 rfl rfl (by omega) (by decide) dL_rounds_253 ?_
                        refine q_top (show nI ((rA los wai (sndM rc sent los gon set (mxn (ndf k set gon) rc)) (un (bdB j k (sndM rc sent los gon set (mxn (ndf k set gon) rc)) gon bad) j (bad j + 0)) (bdG j k pat (sndM rc sent los gon set (mxn (ndf k set gon) rc)) gon bad)) ((5 * j) + 4)) = nI ((bdG j k pat (sndM rc sent los gon set (mxn (ndf k set gon) rc)) gon bad) j) from congrArg nI (rA_4 _ _ _ _ _ _)) ?_
                        refine q_top (show nI ((bdG j k pat (sndM rc sent los gon set (mxn (ndf k set gon) rc)) gon bad) j) = nI (gon j) from congrArg nI (bdG_at _ _ _ _ _ _)) ?_
                        refine lv_iload hx hb dL_rounds_254 (lv_at hl 0 rfl) ?_
                        refine lv_iconst (v := nI (1)) hx hb dL_rounds_256 (by decide) ?_
                        refine q_icmp_ne (u := ((0 : Nat) : Int)) (v := ((1 : Nat) : Int)) (tgt := 278) hx hb dL_rounds_257 (by decide) (nI_toInt (by omega)) (nI_toInt (by omega)) (fun _ => ?_) (fun c_257 => absurd c_257 (by decide))
                        refine lv_iconst (v := nI (0)) hx hb dL_rounds_278 (by decide) ?_
                        refine lv_ior hx hb dL_rounds_279 ?_
                        refine q_top (show (nI (gon j) ||| nI (0)) = nI (gon j) from by rw [nI_or, Nat.or_zero]) ?_
                        refine q_iast (f := (rA los wai (sndM rc sent los gon set (mxn (ndf k set gon) rc)) (un (bdB j k (sndM rc sent los gon set (mxn (ndf k set gon) rc)) gon bad) j (bad j + 0)) (bdG j k pat (sndM rc sent los gon set (mxn (ndf k set gon) rc)) gon bad))) (j := (5 * j) + 4) (y := gon j) hx hb hK hP hD hS 2 0 rfl rfl (by omega) (by decide) dL_rounds_280 (fun H locs hP hD hS => ?_)
                        have hP : va_P D vwCl ((wT cI q0 q1 q2 (nA k pat (sent + mxn (ndf k set gon) rc) rc (rep + cnt (pR (ndf k set gon) wai rc) rc) (kept + cnt (pK (ndf k set gon) wai rc) rc)) dat (un (rA los wai (sndM rc sent los gon set (mxn (ndf k set gon) rc)) (un (bdB j k (sndM rc sent los gon set (mxn (ndf k set gon) rc)) gon bad) j (bad j + 0)) (bdG j k pat (sndM rc sent los gon set (mxn (ndf k set gon) rc)) gon bad)) ((5 * j) + 4) (gon j))) ++ [(qn, .inl (cI, 6, .inl (nF (npf (ndf k set gon) rc))))]) H := hP
                        have hD : va_D A ((wT cI q0 q1 q2 (nA k pat (sent + mxn (ndf k set gon) rc) rc (rep + cnt (pR (ndf k set gon) wai rc) rc) (kept + cnt (pK (ndf k set gon) wai rc) rc)) dat (un (rA los wai (sndM rc sent los gon set (mxn (ndf k set gon) rc)) (un (bdB j k (sndM rc sent los gon set (mxn (ndf k set gon) rc)) gon bad) j (bad j + 0)) (bdG j k pat (sndM rc sent los gon set (mxn (ndf k set gon) rc)) gon bad)) ((5 * j) + 4) (gon j))) ++ [(qn, .inl (cI, 6, .inl (nF (npf (ndf k set gon) rc))))]) := hD
                        rw [unR_4] at hP hD
                        refine lv_iinc (v := nI (j + 1)) (lv' := [(4, .int (nI (j + 1))), (5, .int (nI (0))), (0, .ref (q0)), (1, .ref (q2)), (2, .ref (qn)), (3, .int (nI (mxn (ndf k set gon) rc)))]) hx hb dL_rounds_281 hl (k := 5) rfl (show nI (j) + Int32.ofInt 1 = nI (j + 1) from nI_add (j) 1) (by decide) rfl (fun ls hl => ?_)
                        refine lv_goto (tgt := 200) hx hb dL_rounds_284 (by decide) ?_
                        have eW : ((wT cI q0 q1 q2 (nA k pat (sent + mxn (ndf k set gon) rc) rc (rep + cnt (pR (ndf k set gon) wai rc) rc) (kept + cnt (pK (ndf k set gon) wai rc) rc)) dat (rA los wai (sndM rc sent los gon set (mxn (ndf k set gon) rc)) (un (bdB j k (sndM rc sent los gon set (mxn (ndf k set gon) rc)) gon bad) j (bad j + 0)) (un (bdG j k pat (sndM rc sent los gon set (mxn (ndf k set gon) rc)) gon bad) j (gon j)))) ++ [(qn, .inl (cI, 6, .inl (nF (npf (ndf k set gon) rc))))]) = ((wT cI q0 q1 q2 (nA k pat (sent + mxn (ndf k set gon) rc) rc (rep + cnt (pR (ndf k set gon) wai rc) rc) (kept + cnt (pK (ndf k set gon) wai rc) rc)) dat (rA los wai (sndM rc sent los gon set (mxn (ndf k set gon) rc)) (bdB (j + 1) k (sndM rc sent los gon set (mxn (ndf k set gon) rc)) gon bad) (bdG (j + 1) k pat (sndM rc sent los gon set (mxn (ndf k set gon) rc)) gon bad))) ++ [(qn, .inl (cI, 6, .inl (nF (npf (ndf k set gon) rc))))]) := by first | rw [bdB_y hC.1 hC.2, bdG_y hC.1 hC.2] | rw [bdB_u, bdG_u, bdB_n hC, bdG_n hC]
                        rw [eW] at hP hD
                        clear eW
                        exact ih200_5 (j + 1) (by omega) (by omega) _ _ hP hD hS ls (lv_sub hl [2, 3, 4, 5, 0] rfl)
                      · have hC : gon j = 0 ∧ 0 < k - pc (sndM rc sent los gon set (mxn (ndf k set gon) rc) j) := ⟨by by_cases z : gon j = 0; (first | exact z | skip); (first | (have e7 : ndf k set gon j = 0 := if_neg z; omega) | skip), by omega⟩
                        refine lv_iconst (v := nI (1)) hx hb dL_rounds_225 (by decide) ?_
                        refine lv_goto (tgt := 230) hx hb dL_rounds_226 (by decide) ?_
                        refine lv_istore (lv' := [(5, .int (nI (1))), (0, .ref (q0)), (1, .ref (q2)), (2, .ref (qn)), (3, .int (nI (mxn (ndf k set gon) rc))), (4, .int (nI (j)))]) hx hb dL_rounds_230 hl (by decide) rfl (fun ls hl => ?_)
                        refine lv_aload_n hx hb dL_rounds_232 rfl (lv_at hl 2 rfl) ?_
                        refine lv_iconst (v := nI (5)) hx hb dL_rounds_233 (by decide) ?_
                        refine lv_iload hx hb dL_rounds_234 (lv_at hl 5 rfl) ?_
                        refine lv_imul hx hb dL_rounds_236 ?_
                        refine q_top (show (nI (5) * nI (j)) = nI (5 * j) from pk_mul _ _) ?_
                        refine lv_iconst (v := nI (3)) hx hb dL_rounds_237 (by decide) ?_
                        refine lv_iadd hx hb dL_rounds_238 ?_
                        refine q_top (show (nI (5 * j) + nI (3)) = nI ((5 * j) + 3) from nI_add _ _) ?_
                        refine lv_dup2_11 hx hb dL_rounds_239 rfl rfl ?_
                        refine q_iald (f := (rA los wai (sndM rc sent los gon set (mxn (ndf k set gon) rc)) (bdB j k (sndM rc sent los gon set (mxn (ndf k set gon) rc)) gon bad) (bdG j k pat (sndM rc sent los gon set (mxn (ndf k set gon) rc)) gon bad))) (j := (5 * j) + 3) hx hb hK hP 2 0 rfl rfl (by omega) (by decide) dL_rounds_240 ?_
                        refine q_top (show nI ((rA los wai (sndM rc sent los gon set (mxn (ndf k set gon) rc)) (bdB j k (sndM rc sent los gon set (mxn (ndf k set gon) rc)) gon bad) (bdG j k pat (sndM rc sent los gon set (mxn (ndf k set gon) rc)) gon bad)) ((5 * j) + 3)) = nI ((bdB j k (sndM rc sent los gon set (mxn (ndf k set gon) rc)) gon bad) j) from congrArg nI (rA_3 _ _ _ _ _ _)) ?_
                        refine q_top (show nI ((bdB j k (sndM rc sent los gon set (mxn (ndf k set gon) rc)) gon bad) j) = nI (bad j) from congrArg nI (bdB_at _ _ _ _ _)) ?_
                        refine lv_iload hx hb dL_rounds_241 (lv_at hl 0 rfl) ?_
                        refine lv_iadd hx hb dL_rounds_243 ?_
                        refine q_top (show (nI (bad j) + nI (1)) = nI (bad j + 1) from nI_add _ _) ?_
                        refine q_iast (f := (rA los wai (sndM rc sent los gon set (mxn (ndf k set gon) rc)) (bdB j k (sndM rc sent los gon set (mxn (ndf k set gon) rc)) gon bad) (bdG j k pat (sndM rc sent los gon set (mxn (ndf k set gon) rc)) gon bad))) (j := (5 * j) + 3) (y := bad j + 1) hx hb hK hP hD hS 2 0 rfl rfl (by omega) (by decide) dL_rounds_244 (fun H locs hP hD hS => ?_)
                        have hP : va_P D vwCl ((wT cI q0 q1 q2 (nA k pat (sent + mxn (ndf k set gon) rc) rc (rep + cnt (pR (ndf k set gon) wai rc) rc) (kept + cnt (pK (ndf k set gon) wai rc) rc)) dat (un (rA los wai (sndM rc sent los gon set (mxn (ndf k set gon) rc)) (bdB j k (sndM rc sent los gon set (mxn (ndf k set gon) rc)) gon bad) (bdG j k pat (sndM rc sent los gon set (mxn (ndf k set gon) rc)) gon bad)) ((5 * j) + 3) (bad j + 1))) ++ [(qn, .inl (cI, 6, .inl (nF (npf (ndf k set gon) rc))))]) H := hP
                        have hD : va_D A ((wT cI q0 q1 q2 (nA k pat (sent + mxn (ndf k set gon) rc) rc (rep + cnt (pR (ndf k set gon) wai rc) rc) (kept + cnt (pK (ndf k set gon) wai rc) rc)) dat (un (rA los wai (sndM rc sent los gon set (mxn (ndf k set gon) rc)) (bdB j k (sndM rc sent los gon set (mxn (ndf k set gon) rc)) gon bad) (bdG j k pat (sndM rc sent los gon set (mxn (ndf k set gon) rc)) gon bad)) ((5 * j) + 3) (bad j + 1))) ++ [(qn, .inl (cI, 6, .inl (nF (npf (ndf k set gon) rc))))]) := hD
                        rw [unR_3] at hP hD
                        refine lv_aload_n hx hb dL_rounds_245 rfl (lv_at hl 2 rfl) ?_
                        refine lv_iconst (v := nI (5)) hx hb dL_rounds_246 (by decide) ?_
                        refine lv_iload hx hb dL_rounds_247 (lv_at hl 5 rfl) ?_
                        refine lv_imul hx hb dL_rounds_249 ?_
                        refine q_top (show (nI (5) * nI (j)) = nI (5 * j) from pk_mul _ _) ?_
                        refine lv_iconst (v := nI (4)) hx hb dL_rounds_250 (by decide) ?_
                        refine lv_iadd hx hb dL_rounds_251 ?_
                        refine q_top (show (nI (5 * j) + nI (4)) = nI ((5 * j) + 4) from nI_add _ _) ?_
                        refine lv_dup2_11 hx hb dL_rounds_252 rfl rfl ?_
                        refine q_iald (f := (rA los wai (sndM rc sent los gon set (mxn (ndf k set gon) rc)) (un (bdB j k (sndM rc sent los gon set (mxn (ndf k set gon) rc)) gon bad) j (bad j + 1)) (bdG j k pat (sndM rc sent los gon set (mxn (ndf k set gon) rc)) gon bad))) (j := (5 * j) + 4) hx hb hK hP 2 0 rfl rfl (by omega) (by decide) dL_rounds_253 ?_
                        refine q_top (show nI ((rA los wai (sndM rc sent los gon set (mxn (ndf k set gon) rc)) (un (bdB j k (sndM rc sent los gon set (mxn (ndf k set gon) rc)) gon bad) j (bad j + 1)) (bdG j k pat (sndM rc sent los gon set (mxn (ndf k set gon) rc)) gon bad)) ((5 * j) + 4)) = nI ((bdG j k pat (sndM rc sent los gon set (mxn (ndf k set gon) rc)) gon bad) j) from congrArg nI (rA_4 _ _ _ _ _ _)) ?_
                        refine q_top (show nI ((bdG j k pat (sndM rc sent los gon set (mxn (ndf k set gon) rc)) gon bad) j) = nI (gon j) from congrArg nI (bdG_at _ _ _ _ _ _)) ?_
                        refine lv_iload hx hb dL_rounds_254 (lv_at hl 0 rfl) ?_
                        refine lv_iconst (v := nI (1)) hx hb dL_rounds_256 (by decide) ?_
                        refine q_icmp_ne (u := ((1 : Nat) : Int)) (v := ((1 : Nat) : Int)) (tgt := 278) hx hb dL_rounds_257 (by decide) (nI_toInt (by omega)) (nI_toInt (by omega)) (fun c_257 => absurd c_257 (by decide)) (fun _ => ?_)
                        refine lv_aload_n hx hb dL_rounds_260 rfl (lv_at hl 2 rfl) ?_
                        refine lv_iconst (v := nI (5)) hx hb dL_rounds_261 (by decide) ?_
                        refine lv_iload hx hb dL_rounds_262 (lv_at hl 5 rfl) ?_
                        refine lv_imul hx hb dL_rounds_264 ?_
                        refine q_top (show (nI (5) * nI (j)) = nI (5 * j) from pk_mul _ _) ?_
                        refine lv_iconst (v := nI (3)) hx hb dL_rounds_265 (by decide) ?_
                        refine lv_iadd hx hb dL_rounds_266 ?_
                        refine q_top (show (nI (5 * j) + nI (3)) = nI ((5 * j) + 3) from nI_add _ _) ?_
                        refine q_iald (f := (rA los wai (sndM rc sent los gon set (mxn (ndf k set gon) rc)) (un (bdB j k (sndM rc sent los gon set (mxn (ndf k set gon) rc)) gon bad) j (bad j + 1)) (bdG j k pat (sndM rc sent los gon set (mxn (ndf k set gon) rc)) gon bad))) (j := (5 * j) + 3) hx hb hK hP 2 0 rfl rfl (by omega) (by decide) dL_rounds_267 ?_
                        refine q_top (show nI ((rA los wai (sndM rc sent los gon set (mxn (ndf k set gon) rc)) (un (bdB j k (sndM rc sent los gon set (mxn (ndf k set gon) rc)) gon bad) j (bad j + 1)) (bdG j k pat (sndM rc sent los gon set (mxn (ndf k set gon) rc)) gon bad)) ((5 * j) + 3)) = nI ((un (bdB j k (sndM rc sent los gon set (mxn (ndf k set gon) rc)) gon bad) j (bad j + 1)) j) from congrArg nI (rA_3 _ _ _ _ _ _)) ?_
                        refine q_top (show nI ((un (bdB j k (sndM rc sent los gon set (mxn (ndf k set gon) rc)) gon bad) j (bad j + 1)) j) = nI (bad j + 1) from congrArg nI (un_s _ _ _)) ?_
                        refine lv_aload_n hx hb dL_rounds_268 rfl (lv_at hl 1 rfl) ?_
                        refine lv_iconst (v := nI (1)) hx hb dL_rounds_269 (by decide) ?_
                        refine q_iald (f := (nA k pat (sent + mxn (ndf k set gon) rc) rc (rep + cnt (pR (ndf k set gon) wai rc) rc) (kept + cnt (pK (ndf k set gon) wai rc) rc))) (j := 1) hx hb hK hP 0 0 rfl rfl (by decide) (by decide) dL_rounds_270 ?_
                        refine q_top (show nI ((nA k pat (sent + mxn (ndf k set gon) rc) rc (rep + cnt (pR (ndf k set gon) wai rc) rc) (kept + cnt (pK (ndf k set gon) wai rc) rc)) 1) = nI (pat) from rfl) ?_
                        refine q_icmp_lt (u := ((bad j + 1 : Nat) : Int)) (v := ((pat : Nat) : Int)) (tgt := 278) hx hb dL_rounds_271 (by decide) (nI_toInt (by omega)) (nI_toInt (by omega)) (fun c_271 => ?_) (fun c_271 => ?_)
                        · have e9 : (0 : Nat) = if pat ≤ bad j + 1 then 1 else 0 := (if_neg (by omega)).symm
                          refine lv_iconst (v := nI (0)) hx hb dL_rounds_278 (by decide) ?_
                          refine lv_ior hx hb dL_rounds_279 ?_
                          refine q_top (show (nI (gon j) ||| nI (0)) = nI (if pat ≤ bad j + 1 then 1 else 0) from by rw [nI_or, hC.1, Nat.zero_or]; exact congrArg nI e9) ?_
                          refine q_iast (f := (rA los wai (sndM rc sent los gon set (mxn (ndf k set gon) rc)) (un (bdB j k (sndM rc sent los gon set (mxn (ndf k set gon) rc)) gon bad) j (bad j + 1)) (bdG j k pat (sndM rc sent los gon set (mxn (ndf k set gon) rc)) gon bad))) (j := (5 * j) + 4) (y := if pat ≤ bad j + 1 then 1 else 0) hx hb hK hP hD hS 2 0 rfl rfl (by omega) (by decide) dL_rounds_280 (fun H locs hP hD hS => ?_)
                          have hP : va_P D vwCl ((wT cI q0 q1 q2 (nA k pat (sent + mxn (ndf k set gon) rc) rc (rep + cnt (pR (ndf k set gon) wai rc) rc) (kept + cnt (pK (ndf k set gon) wai rc) rc)) dat (un (rA los wai (sndM rc sent los gon set (mxn (ndf k set gon) rc)) (un (bdB j k (sndM rc sent los gon set (mxn (ndf k set gon) rc)) gon bad) j (bad j + 1)) (bdG j k pat (sndM rc sent los gon set (mxn (ndf k set gon) rc)) gon bad)) ((5 * j) + 4) (if pat ≤ bad j + 1 then 1 else 0))) ++ [(qn, .inl (cI, 6, .inl (nF (npf (ndf k set gon) rc))))]) H := hP
                          have hD : va_D A ((wT cI q0 q1 q2 (nA k pat (sent + mxn (ndf k set gon) rc) rc (rep + cnt (pR (ndf k set gon) wai rc) rc) (kept + cnt (pK (ndf k set gon) wai rc) rc)) dat (un (rA los wai (sndM rc sent los gon set (mxn (ndf k set gon) rc)) (un (bdB j k (sndM rc sent los gon set (mxn (ndf k set gon) rc)) gon bad) j (bad j + 1)) (bdG j k pat (sndM rc sent los gon set (mxn (ndf k set gon) rc)) gon bad)) ((5 * j) + 4) (if pat ≤ bad j + 1 then 1 else 0))) ++ [(qn, .inl (cI, 6, .inl (nF (npf (ndf k set gon) rc))))]) := hD
                          rw [unR_4] at hP hD
                          refine lv_iinc (v := nI (j + 1)) (lv' := [(4, .int (nI (j + 1))), (5, .int (nI (1))), (0, .ref (q0)), (1, .ref (q2)), (2, .ref (qn)), (3, .int (nI (mxn (ndf k set gon) rc)))]) hx hb dL_rounds_281 hl (k := 5) rfl (show nI (j) + Int32.ofInt 1 = nI (j + 1) from nI_add (j) 1) (by decide) rfl (fun ls hl => ?_)
                          refine lv_goto (tgt := 200) hx hb dL_rounds_284 (by decide) ?_
                          have eW : ((wT cI q0 q1 q2 (nA k pat (sent + mxn (ndf k set gon) rc) rc (rep + cnt (pR (ndf k set gon) wai rc) rc) (kept + cnt (pK (ndf k set gon) wai rc) rc)) dat (rA los wai (sndM rc sent los gon set (mxn (ndf k set gon) rc)) (un (bdB j k (sndM rc sent los gon set (mxn (ndf k set gon) rc)) gon bad) j (bad j + 1)) (un (bdG j k pat (sndM rc sent los gon set (mxn (ndf k set gon) rc)) gon bad) j (if pat ≤ bad j + 1 then 1 else 0)))) ++ [(qn, .inl (cI, 6, .inl (nF (npf (ndf k set gon) rc))))]) = ((wT cI q0 q1 q2 (nA k pat (sent + mxn (ndf k set gon) rc) rc (rep + cnt (pR (ndf k set gon) wai rc) rc) (kept + cnt (pK (ndf k set gon) wai rc) rc)) dat (rA los wai (sndM rc sent los gon set (mxn (ndf k set gon) rc)) (bdB (j + 1) k (sndM rc sent los gon set (mxn (ndf k set gon) rc)) gon bad) (bdG (j + 1) k pat (sndM rc sent los gon set (mxn (ndf k set gon) rc)) gon bad))) ++ [(qn, .inl (cI, 6, .inl (nF (npf (ndf k set gon) rc))))]) := by first | rw [bdB_y hC.1 hC.2, bdG_y hC.1 hC.2] | rw [bdB_u, bdG_u, bdB_n hC, bdG_n hC]
                          rw [eW] at hP hD
                          clear eW
                          exact ih200_5 (j + 1) (by omega) (by omega) _ _ hP hD hS ls (lv_sub hl [2, 3, 4, 5, 0] rfl)
                        · have e9 : (1 : Nat) = if pat ≤ bad j + 1 then 1 else 0 := (if_pos (by omega)).symm
                          refine lv_iconst (v := nI (1)) hx hb dL_rounds_274 (by decide) ?_
                          refine lv_goto (tgt := 279) hx hb dL_rounds_275 (by decide) ?_
                          refine lv_ior hx hb dL_rounds_279 ?_
                          refine q_top (show (nI (gon j) ||| nI (1)) = nI (if pat ≤ bad j + 1 then 1 else 0) from by rw [nI_or, hC.1, Nat.zero_or]; exact congrArg nI e9) ?_
                          refine q_iast (f := (rA los wai (sndM rc sent los gon set (mxn (ndf k set gon) rc)) (un (bdB j k (sndM rc sent los gon set (mxn (ndf k set gon) rc)) gon bad) j (bad j + 1)) (bdG j k pat (sndM rc sent los gon set (mxn (ndf k set gon) rc)) gon bad))) (j := (5 * j) + 4) (y := if pat ≤ bad j + 1 then 1 else 0) hx hb hK hP hD hS 2 0 rfl rfl (by omega) (by decide) dL_rounds_280 (fun H locs hP hD hS => ?_)
                          have hP : va_P D vwCl ((wT cI q0 q1 q2 (nA k pat (sent + mxn (ndf k set gon) rc) rc (rep + cnt (pR (ndf k set gon) wai rc) rc) (kept + cnt (pK (ndf k set gon) wai rc) rc)) dat (un (rA los wai (sndM rc sent los gon set (mxn (ndf k set gon) rc)) (un (bdB j k (sndM rc sent los gon set (mxn (ndf k set gon) rc)) gon bad) j (bad j + 1)) (bdG j k pat (sndM rc sent los gon set (mxn (ndf k set gon) rc)) gon bad)) ((5 * j) + 4) (if pat ≤ bad j + 1 then 1 else 0))) ++ [(qn, .inl (cI, 6, .inl (nF (npf (ndf k set gon) rc))))]) H := hP
                          have hD : va_D A ((wT cI q0 q1 q2 (nA k pat (sent + mxn (ndf k set gon) rc) rc (rep + cnt (pR (ndf k set gon) wai rc) rc) (kept + cnt (pK (ndf k set gon) wai rc) rc)) dat (un (rA los wai (sndM rc sent los gon set (mxn (ndf k set gon) rc)) (un (bdB j k (sndM rc sent los gon set (mxn (ndf k set gon) rc)) gon bad) j (bad j + 1)) (bdG j k pat (sndM rc sent los gon set (mxn (ndf k set gon) rc)) gon bad)) ((5 * j) + 4) (if pat ≤ bad j + 1 then 1 else 0))) ++ [(qn, .inl (cI, 6, .inl (nF (npf (ndf k set gon) rc))))]) := hD
                          rw [unR_4] at hP hD
                          refine lv_iinc (v := nI (j + 1)) (lv' := [(4, .int (nI (j + 1))), (5, .int (nI (1))), (0, .ref (q0)), (1, .ref (q2)), (2, .ref (qn)), (3, .int (nI (mxn (ndf k set gon) rc)))]) hx hb dL_rounds_281 hl (k := 5) rfl (show nI (j) + Int32.ofInt 1 = nI (j + 1) from nI_add (j) 1) (by decide) rfl (fun ls hl => ?_)
                          refine lv_goto (tgt := 200) hx hb dL_rounds_284 (by decide) ?_
                          have eW : ((wT cI q0 q1 q2 (nA k pat (sent + mxn (ndf k set gon) rc) rc (rep + cnt (pR (ndf k set gon) wai rc) rc) (kept + cnt (pK (ndf k set gon) wai rc) rc)) dat (rA los wai (sndM rc sent los gon set (mxn (ndf k set gon) rc)) (un (bdB j k (sndM rc sent los gon set (mxn (ndf k set gon) rc)) gon bad) j (bad j + 1)) (un (bdG j k pat (sndM rc sent los gon set (mxn (ndf k set gon) rc)) gon bad) j (if pat ≤ bad j + 1 then 1 else 0)))) ++ [(qn, .inl (cI, 6, .inl (nF (npf (ndf k set gon) rc))))]) = ((wT cI q0 q1 q2 (nA k pat (sent + mxn (ndf k set gon) rc) rc (rep + cnt (pR (ndf k set gon) wai rc) rc) (kept + cnt (pK (ndf k set gon) wai rc) rc)) dat (rA los wai (sndM rc sent los gon set (mxn (ndf k set gon) rc)) (bdB (j + 1) k (sndM rc sent los gon set (mxn (ndf k set gon) rc)) gon bad) (bdG (j + 1) k pat (sndM rc sent los gon set (mxn (ndf k set gon) rc)) gon bad))) ++ [(qn, .inl (cI, 6, .inl (nF (npf (ndf k set gon) rc))))]) := by first | rw [bdB_y hC.1 hC.2, bdG_y hC.1 hC.2] | rw [bdB_u, bdG_u, bdB_n hC, bdG_n hC]
                          rw [eW] at hP hD
                          clear eW
                          exact ih200_5 (j + 1) (by omega) (by omega) _ _ hP hD hS ls (lv_sub hl [2, 3, 4, 5, 0] rfl)
              have eW : ((wT cI q0 q1 q2 (nA k pat (sent + (mxn (ndf k set gon) rc)) rc ((rep + cnt (pR (ndf k set gon) wai rc) rc)) ((kept + cnt (pK (ndf k set gon) wai rc) rc))) dat (rA los wai (sndM rc sent los gon set (mxn (ndf k set gon) rc)) bad gon)) ++ [(qn, .inl (cI, 6, .inl (nF (npf (ndf k set gon) rc))))]) = ((wT cI q0 q1 q2 (nA k pat (sent + mxn (ndf k set gon) rc) rc (rep + cnt (pR (ndf k set gon) wai rc) rc) (kept + cnt (pK (ndf k set gon) wai rc) rc)) dat (rA los wai (sndM rc sent los gon set (mxn (ndf k set gon) rc)) (bdB 0 k (sndM rc sent los gon set (mxn (ndf k set gon) rc)) gon bad) (bdG 0 k pat (sndM rc sent los gon set (mxn (ndf k set gon) rc)) gon bad))) ++ [(qn, .inl (cI, 6, .inl (nF (npf (ndf k set gon) rc))))]) := by rw [bdB_0, bdG_0]
              rw [eW] at hP hD
              clear eW
              exact L200_5 _ (0) (Nat.lt_succ_self _) (by omega) _ _ hP hD hS ls (lv_sub hl [1, 2, 3, 4, 0] rfl)
            · have hnj := hnd j
              have hhj := hmx_le (wai := wai) hnd (wai j) rc
              refine lv_iconst (v := nI (0)) hx hb dL_rounds_79 (by decide) ?_
              refine lv_istore (lv' := [(5, .int (nI (0))), (0, .ref (q0)), (1, .ref (q2)), (2, .ref (qn)), (3, .int (nI (mxn (ndf k set gon) rc))), (4, .int (nI (j)))]) hx hb dL_rounds_80 hl (by decide) rfl (fun ls hl => ?_)
              refine lv_iconst (v := nI (0)) hx hb dL_rounds_82 (by decide) ?_
              refine lv_istore (lv' := [(6, .int (nI (0))), (5, .int (nI (0))), (0, .ref (q0)), (1, .ref (q2)), (2, .ref (qn)), (3, .int (nI (mxn (ndf k set gon) rc))), (4, .int (nI (j)))]) hx hb dL_rounds_83 hl (by decide) rfl (fun ls hl => ?_)
              have L85_13 : ∀ (n85_13 : Nat) (i : Nat), 7 - i < n85_13 → (i ≤ rc) → ∀ (H : Heap) (locs : List Loc), va_P D vwCl ((wT cI q0 q1 q2 (nA k pat sent rc (rep + cnt (pR (ndf k set gon) wai rc) j) (kept + cnt (pK (ndf k set gon) wai rc) j)) dat (rA los wai set bad gon)) ++ [(qn, .inl (cI, 6, .inl (nF (npf (ndf k set gon) rc))))]) H → va_D A ((wT cI q0 q1 q2 (nA k pat sent rc (rep + cnt (pR (ndf k set gon) wai rc) j) (kept + cnt (pK (ndf k set gon) wai rc) j)) dat (rA los wai set bad gon)) ++ [(qn, .inl (cI, 6, .inl (nF (npf (ndf k set gon) rc))))]) → va_S A s.heap H locs → ∀ (ls : Array Slot), lv_has ls 7 [(0, .ref (q0)), (1, .ref (q2)), (2, .ref (qn)), (3, .int (nI (mxn (ndf k set gon) rc))), (4, .int (nI (j))), (5, .int (nI (hmx (ndf k set gon) wai (wai j) i))), (6, .int (nI (i)))] → W p l e (headSpec wsL_rounds ({ frames := 1, cells := 1, slots := 6, locals := 25 } : Room)).room s m ([.ref (q0), .ref (q2)] : List Value).toArray below meth c H locs 1 6 (MQ below (QI D A (fun z9 (_ : Unit) => z9 = nI (mxn (ndf k set gon) rc)) (fun _ => (wT cI q0 q1 q2 (nA k pat (sent + mxn (ndf k set gon) rc) rc (rep + cnt (pR (ndf k set gon) wai rc) rc) (kept + cnt (pK (ndf k set gon) wai rc) rc)) dat (rA los wai (sndM rc sent los gon set (mxn (ndf k set gon) rc)) (bdB rc k (sndM rc sent los gon set (mxn (ndf k set gon) rc)) gon bad) (bdG rc k pat (sndM rc sent los gon set (mxn (ndf k set gon) rc)) gon bad))))) ([.ref (q0), .ref (q2)] : List Value).toArray s 1 6 A) (F0 m 85 ls []) := by
                intro n85_13
                induction n85_13 with
                | zero =>
                  intro i hn85_13
                  exact absurd hn85_13 (Nat.not_lt_zero _)
                | succ n85_13 ih85_13 =>
                  intro i hn85_13 hi H locs hP hD hS ls hl
                  refine lv_iload hx hb dL_rounds_85 (lv_at hl 6 rfl) ?_
                  refine lv_aload_n hx hb dL_rounds_87 rfl (lv_at hl 0 rfl) ?_
                  refine lv_iconst (v := nI (3)) hx hb dL_rounds_88 (by decide) ?_
                  refine q_iald (f := (nA k pat sent rc (rep + cnt (pR (ndf k set gon) wai rc) j) (kept + cnt (pK (ndf k set gon) wai rc) j))) (j := 3) hx hb hK hP 0 0 rfl rfl (by decide) (by decide) dL_rounds_89 ?_
                  refine q_top (show nI ((nA k pat sent rc (rep + cnt (pR (ndf k set gon) wai rc) j) (kept + cnt (pK (ndf k set gon) wai rc) j)) 3) = nI (rc) from rfl) ?_
                  refine q_icmp_ge (u := ((i : Nat) : Int)) (v := ((rc : Nat) : Int)) (tgt := 138) hx hb dL_rounds_90 (by decide) (nI_toInt (by omega)) (nI_toInt (by omega)) (fun c_90 => ?_) (fun c_90 => ?_)
                  · obtain rfl : rc = i := by omega
                    refine lv_aload_n hx hb dL_rounds_138 rfl (lv_at hl 0 rfl) ?_
                    refine lv_iconst (v := nI (4)) hx hb dL_rounds_139 (by decide) ?_
                    refine lv_dup2_11 hx hb dL_rounds_140 rfl rfl ?_
                    refine q_iald (f := (nA k pat sent rc (rep + cnt (pR (ndf k set gon) wai rc) j) (kept + cnt (pK (ndf k set gon) wai rc) j))) (j := 4) hx hb hK hP 0 0 rfl rfl (by decide) (by decide) dL_rounds_141 ?_
                    refine q_top (show nI ((nA k pat sent rc (rep + cnt (pR (ndf k set gon) wai rc) j) (kept + cnt (pK (ndf k set gon) wai rc) j)) 4) = nI (rep + cnt (pR (ndf k set gon) wai rc) j) from rfl) ?_
                    refine lv_aload_n hx hb dL_rounds_142 rfl (lv_at hl 2 rfl) ?_
                    refine lv_iload hx hb dL_rounds_143 (lv_at hl 4 rfl) ?_
                    refine q_iald (f := (npf (ndf k set gon) rc)) (j := j) hx hb hK hP 3 0 rfl rfl (by omega) (by decide) dL_rounds_145 ?_
                    refine q_top (show nI ((npf (ndf k set gon) rc) j) = nI (ndf k set gon j) from congrArg nI (npf_at (by omega))) ?_
                    refine lv_iload hx hb dL_rounds_146 (lv_at hl 5 rfl) ?_
                    refine q_icmp_le (u := ((ndf k set gon j : Nat) : Int)) (v := ((hmx (ndf k set gon) wai (wai j) rc : Nat) : Int)) (tgt := 155) hx hb dL_rounds_148 (by decide) (nI_toInt (by omega)) (nI_toInt (by omega)) (fun c_148 => ?_) (fun c_148 => ?_)
                    · have eR : cnt (pR (ndf k set gon) wai rc) (j + 1) = cnt (pR (ndf k set gon) wai rc) j := cnt_n (decide_eq_false (by omega))
                      refine lv_iconst (v := nI (0)) hx hb dL_rounds_155 (by decide) ?_
                      refine lv_iadd hx hb dL_rounds_156 ?_
                      refine q_top (show (nI (rep + cnt (pR (ndf k set gon) wai rc) j) + nI (0)) = nI (rep + cnt (pR (ndf k set gon) wai rc) (j + 1)) from by rw [nI_add]; exact congrArg nI (by rw [eR]; omega)) ?_
                      refine q_iast (f := (nA k pat sent rc (rep + cnt (pR (ndf k set gon) wai rc) j) (kept + cnt (pK (ndf k set gon) wai rc) j))) (j := 4) (y := rep + cnt (pR (ndf k set gon) wai rc) (j + 1)) hx hb hK hP hD hS 0 0 rfl rfl (by decide) (by decide) dL_rounds_157 (fun H locs hP hD hS => ?_)
                      have hP : va_P D vwCl ((wT cI q0 q1 q2 (un (nA k pat sent rc (rep + cnt (pR (ndf k set gon) wai rc) j) (kept + cnt (pK (ndf k set gon) wai rc) j)) 4 (rep + cnt (pR (ndf k set gon) wai rc) (j + 1))) dat (rA los wai set bad gon)) ++ [(qn, .inl (cI, 6, .inl (nF (npf (ndf k set gon) rc))))]) H := hP
                      have hD : va_D A ((wT cI q0 q1 q2 (un (nA k pat sent rc (rep + cnt (pR (ndf k set gon) wai rc) j) (kept + cnt (pK (ndf k set gon) wai rc) j)) 4 (rep + cnt (pR (ndf k set gon) wai rc) (j + 1))) dat (rA los wai set bad gon)) ++ [(qn, .inl (cI, 6, .inl (nF (npf (ndf k set gon) rc))))]) := hD
                      rw [unA_4] at hP hD
                      refine lv_aload_n hx hb dL_rounds_158 rfl (lv_at hl 0 rfl) ?_
                      refine lv_iconst (v := nI (5)) hx hb dL_rounds_159 (by decide) ?_
                      refine lv_dup2_11 hx hb dL_rounds_160 rfl rfl ?_
                      refine q_iald (f := (nA k pat sent rc (rep + cnt (pR (ndf k set gon) wai rc) (j + 1)) (kept + cnt (pK (ndf k set gon) wai rc) j))) (j := 5) hx hb hK hP 0 0 rfl rfl (by decide) (by decide) dL_rounds_161 ?_
                      refine q_top (show nI ((nA k pat sent rc (rep + cnt (pR (ndf k set gon) wai rc) (j + 1)) (kept + cnt (pK (ndf k set gon) wai rc) j)) 5) = nI (kept + cnt (pK (ndf k set gon) wai rc) j) from rfl) ?_
                      refine lv_aload_n hx hb dL_rounds_162 rfl (lv_at hl 2 rfl) ?_
                      refine lv_iload hx hb dL_rounds_163 (lv_at hl 4 rfl) ?_
                      refine q_iald (f := (npf (ndf k set gon) rc)) (j := j) hx hb hK hP 3 0 rfl rfl (by omega) (by decide) dL_rounds_165 ?_
                      refine q_top (show nI ((npf (ndf k set gon) rc) j) = nI (ndf k set gon j) from congrArg nI (npf_at (by omega))) ?_
                      refine q_if_le (u := ((ndf k set gon j : Nat) : Int)) (tgt := 182) hx hb dL_rounds_166 (by decide) (nI_toInt (by omega)) (fun c_166 => ?_) (fun c_166 => ?_)
                      · have eK : cnt (pK (ndf k set gon) wai rc) (j + 1) = cnt (pK (ndf k set gon) wai rc) j := cnt_n (decide_eq_false (by omega))
                        refine lv_iconst (v := nI (0)) hx hb dL_rounds_182 (by decide) ?_
                        refine lv_iadd hx hb dL_rounds_183 ?_
                        refine q_top (show (nI (kept + cnt (pK (ndf k set gon) wai rc) j) + nI (0)) = nI (kept + cnt (pK (ndf k set gon) wai rc) (j + 1)) from by rw [nI_add]; exact congrArg nI (by rw [eK]; omega)) ?_
                        refine q_iast (f := (nA k pat sent rc (rep + cnt (pR (ndf k set gon) wai rc) (j + 1)) (kept + cnt (pK (ndf k set gon) wai rc) j))) (j := 5) (y := kept + cnt (pK (ndf k set gon) wai rc) (j + 1)) hx hb hK hP hD hS 0 0 rfl rfl (by decide) (by decide) dL_rounds_184 (fun H locs hP hD hS => ?_)
                        have hP : va_P D vwCl ((wT cI q0 q1 q2 (un (nA k pat sent rc (rep + cnt (pR (ndf k set gon) wai rc) (j + 1)) (kept + cnt (pK (ndf k set gon) wai rc) j)) 5 (kept + cnt (pK (ndf k set gon) wai rc) (j + 1))) dat (rA los wai set bad gon)) ++ [(qn, .inl (cI, 6, .inl (nF (npf (ndf k set gon) rc))))]) H := hP
                        have hD : va_D A ((wT cI q0 q1 q2 (un (nA k pat sent rc (rep + cnt (pR (ndf k set gon) wai rc) (j + 1)) (kept + cnt (pK (ndf k set gon) wai rc) j)) 5 (kept + cnt (pK (ndf k set gon) wai rc) (j + 1))) dat (rA los wai set bad gon)) ++ [(qn, .inl (cI, 6, .inl (nF (npf (ndf k set gon) rc))))]) := hD
                        rw [unA_5] at hP hD
                        refine lv_iinc (v := nI (j + 1)) (lv' := [(4, .int (nI (j + 1))), (0, .ref (q0)), (1, .ref (q2)), (2, .ref (qn)), (3, .int (nI (mxn (ndf k set gon) rc))), (5, .int (nI (hmx (ndf k set gon) wai (wai j) rc))), (6, .int (nI (rc)))]) hx hb dL_rounds_185 hl (k := 4) rfl (show nI (j) + Int32.ofInt 1 = nI (j + 1) from nI_add (j) 1) (by decide) rfl (fun ls hl => ?_)
                        refine lv_goto (tgt := 71) hx hb dL_rounds_188 (by decide) ?_
                        exact ih71_3 (j + 1) (by omega) (by omega) _ _ hP hD hS ls (lv_sub hl [1, 2, 3, 4, 0] rfl)
                      · skip
                        refine lv_aload_n hx hb dL_rounds_169 rfl (lv_at hl 2 rfl) ?_
                        refine lv_iload hx hb dL_rounds_170 (lv_at hl 4 rfl) ?_
                        refine q_iald (f := (npf (ndf k set gon) rc)) (j := j) hx hb hK hP 3 0 rfl rfl (by omega) (by decide) dL_rounds_172 ?_
                        refine q_top (show nI ((npf (ndf k set gon) rc) j) = nI (ndf k set gon j) from congrArg nI (npf_at (by omega))) ?_
                        refine lv_iload hx hb dL_rounds_173 (lv_at hl 5 rfl) ?_
                        refine q_icmp_gt (u := ((ndf k set gon j : Nat) : Int)) (v := ((hmx (ndf k set gon) wai (wai j) rc : Nat) : Int)) (tgt := 182) hx hb dL_rounds_175 (by decide) (nI_toInt (by omega)) (nI_toInt (by omega)) (fun c_175 => ?_) (fun c_175 => ?_)
                        · have eK : cnt (pK (ndf k set gon) wai rc) (j + 1) = cnt (pK (ndf k set gon) wai rc) j := cnt_n (decide_eq_false (by omega))
                          refine lv_iconst (v := nI (0)) hx hb dL_rounds_182 (by decide) ?_
                          refine lv_iadd hx hb dL_rounds_183 ?_
                          refine q_top (show (nI (kept + cnt (pK (ndf k set gon) wai rc) j) + nI (0)) = nI (kept + cnt (pK (ndf k set gon) wai rc) (j + 1)) from by rw [nI_add]; exact congrArg nI (by rw [eK]; omega)) ?_
                          refine q_iast (f := (nA k pat sent rc (rep + cnt (pR (ndf k set gon) wai rc) (j + 1)) (kept + cnt (pK (ndf k set gon) wai rc) j))) (j := 5) (y := kept + cnt (pK (ndf k set gon) wai rc) (j + 1)) hx hb hK hP hD hS 0 0 rfl rfl (by decide) (by decide) dL_rounds_184 (fun H locs hP hD hS => ?_)
                          have hP : va_P D vwCl ((wT cI q0 q1 q2 (un (nA k pat sent rc (rep + cnt (pR (ndf k set gon) wai rc) (j + 1)) (kept + cnt (pK (ndf k set gon) wai rc) j)) 5 (kept + cnt (pK (ndf k set gon) wai rc) (j + 1))) dat (rA los wai set bad gon)) ++ [(qn, .inl (cI, 6, .inl (nF (npf (ndf k set gon) rc))))]) H := hP
                          have hD : va_D A ((wT cI q0 q1 q2 (un (nA k pat sent rc (rep + cnt (pR (ndf k set gon) wai rc) (j + 1)) (kept + cnt (pK (ndf k set gon) wai rc) j)) 5 (kept + cnt (pK (ndf k set gon) wai rc) (j + 1))) dat (rA los wai set bad gon)) ++ [(qn, .inl (cI, 6, .inl (nF (npf (ndf k set gon) rc))))]) := hD
                          rw [unA_5] at hP hD
                          refine lv_iinc (v := nI (j + 1)) (lv' := [(4, .int (nI (j + 1))), (0, .ref (q0)), (1, .ref (q2)), (2, .ref (qn)), (3, .int (nI (mxn (ndf k set gon) rc))), (5, .int (nI (hmx (ndf k set gon) wai (wai j) rc))), (6, .int (nI (rc)))]) hx hb dL_rounds_185 hl (k := 4) rfl (show nI (j) + Int32.ofInt 1 = nI (j + 1) from nI_add (j) 1) (by decide) rfl (fun ls hl => ?_)
                          refine lv_goto (tgt := 71) hx hb dL_rounds_188 (by decide) ?_
                          exact ih71_3 (j + 1) (by omega) (by omega) _ _ hP hD hS ls (lv_sub hl [1, 2, 3, 4, 0] rfl)
                        · have eK : cnt (pK (ndf k set gon) wai rc) (j + 1) = cnt (pK (ndf k set gon) wai rc) j + 1 := cnt_y (decide_eq_true (by omega))
                          refine lv_iconst (v := nI (1)) hx hb dL_rounds_178 (by decide) ?_
                          refine lv_goto (tgt := 183) hx hb dL_rounds_179 (by decide) ?_
                          refine lv_iadd hx hb dL_rounds_183 ?_
                          refine q_top (show (nI (kept + cnt (pK (ndf k set gon) wai rc) j) + nI (1)) = nI (kept + cnt (pK (ndf k set gon) wai rc) (j + 1)) from by rw [nI_add]; exact congrArg nI (by rw [eK]; omega)) ?_
                          refine q_iast (f := (nA k pat sent rc (rep + cnt (pR (ndf k set gon) wai rc) (j + 1)) (kept + cnt (pK (ndf k set gon) wai rc) j))) (j := 5) (y := kept + cnt (pK (ndf k set gon) wai rc) (j + 1)) hx hb hK hP hD hS 0 0 rfl rfl (by decide) (by decide) dL_rounds_184 (fun H locs hP hD hS => ?_)
                          have hP : va_P D vwCl ((wT cI q0 q1 q2 (un (nA k pat sent rc (rep + cnt (pR (ndf k set gon) wai rc) (j + 1)) (kept + cnt (pK (ndf k set gon) wai rc) j)) 5 (kept + cnt (pK (ndf k set gon) wai rc) (j + 1))) dat (rA los wai set bad gon)) ++ [(qn, .inl (cI, 6, .inl (nF (npf (ndf k set gon) rc))))]) H := hP
                          have hD : va_D A ((wT cI q0 q1 q2 (un (nA k pat sent rc (rep + cnt (pR (ndf k set gon) wai rc) (j + 1)) (kept + cnt (pK (ndf k set gon) wai rc) j)) 5 (kept + cnt (pK (ndf k set gon) wai rc) (j + 1))) dat (rA los wai set bad gon)) ++ [(qn, .inl (cI, 6, .inl (nF (npf (ndf k set gon) rc))))]) := hD
                          rw [unA_5] at hP hD
                          refine lv_iinc (v := nI (j + 1)) (lv' := [(4, .int (nI (j + 1))), (0, .ref (q0)), (1, .ref (q2)), (2, .ref (qn)), (3, .int (nI (mxn (ndf k set gon) rc))), (5, .int (nI (hmx (ndf k set gon) wai (wai j) rc))), (6, .int (nI (rc)))]) hx hb dL_rounds_185 hl (k := 4) rfl (show nI (j) + Int32.ofInt 1 = nI (j + 1) from nI_add (j) 1) (by decide) rfl (fun ls hl => ?_)
                          refine lv_goto (tgt := 71) hx hb dL_rounds_188 (by decide) ?_
                          exact ih71_3 (j + 1) (by omega) (by omega) _ _ hP hD hS ls (lv_sub hl [1, 2, 3, 4, 0] rfl)
                    · have eR : cnt (pR (ndf k set gon) wai rc) (j + 1) = cnt (pR (ndf k set gon) wai rc) j + 1 := cnt_y (decide_eq_true (by omega))
                      refine lv_iconst (v := nI (1)) hx hb dL_rounds_151 (by decide) ?_
                      refine lv_goto (tgt := 156) hx hb dL_rounds_152 (by decide) ?_
                      refine lv_iadd hx hb dL_rounds_156 ?_
                      refine q_top (show (nI (rep + cnt (pR (ndf k set gon) wai rc) j) + nI (1)) = nI (rep + cnt (pR (ndf k set gon) wai rc) (j + 1)) from by rw [nI_add]; exact congrArg nI (by rw [eR]; omega)) ?_
                      refine q_iast (f := (nA k pat sent rc (rep + cnt (pR (ndf k set gon) wai rc) j) (kept + cnt (pK (ndf k set gon) wai rc) j))) (j := 4) (y := rep + cnt (pR (ndf k set gon) wai rc) (j + 1)) hx hb hK hP hD hS 0 0 rfl rfl (by decide) (by decide) dL_rounds_157 (fun H locs hP hD hS => ?_)
                      have hP : va_P D vwCl ((wT cI q0 q1 q2 (un (nA k pat sent rc (rep + cnt (pR (ndf k set gon) wai rc) j) (kept + cnt (pK (ndf k set gon) wai rc) j)) 4 (rep + cnt (pR (ndf k set gon) wai rc) (j + 1))) dat (rA los wai set bad gon)) ++ [(qn, .inl (cI, 6, .inl (nF (npf (ndf k set gon) rc))))]) H := hP
                      have hD : va_D A ((wT cI q0 q1 q2 (un (nA k pat sent rc (rep + cnt (pR (ndf k set gon) wai rc) j) (kept + cnt (pK (ndf k set gon) wai rc) j)) 4 (rep + cnt (pR (ndf k set gon) wai rc) (j + 1))) dat (rA los wai set bad gon)) ++ [(qn, .inl (cI, 6, .inl (nF (npf (ndf k set gon) rc))))]) := hD
                      rw [unA_4] at hP hD
                      refine lv_aload_n hx hb dL_rounds_158 rfl (lv_at hl 0 rfl) ?_
                      refine lv_iconst (v := nI (5)) hx hb dL_rounds_159 (by decide) ?_
                      refine lv_dup2_11 hx hb dL_rounds_160 rfl rfl ?_
                      refine q_iald (f := (nA k pat sent rc (rep + cnt (pR (ndf k set gon) wai rc) (j + 1)) (kept + cnt (pK (ndf k set gon) wai rc) j))) (j := 5) hx hb hK hP 0 0 rfl rfl (by decide) (by decide) dL_rounds_161 ?_
                      refine q_top (show nI ((nA k pat sent rc (rep + cnt (pR (ndf k set gon) wai rc) (j + 1)) (kept + cnt (pK (ndf k set gon) wai rc) j)) 5) = nI (kept + cnt (pK (ndf k set gon) wai rc) j) from rfl) ?_
                      refine lv_aload_n hx hb dL_rounds_162 rfl (lv_at hl 2 rfl) ?_
                      refine lv_iload hx hb dL_rounds_163 (lv_at hl 4 rfl) ?_
                      refine q_iald (f := (npf (ndf k set gon) rc)) (j := j) hx hb hK hP 3 0 rfl rfl (by omega) (by decide) dL_rounds_165 ?_
                      refine q_top (show nI ((npf (ndf k set gon) rc) j) = nI (ndf k set gon j) from congrArg nI (npf_at (by omega))) ?_
                      refine q_if_le (u := ((ndf k set gon j : Nat) : Int)) (tgt := 182) hx hb dL_rounds_166 (by decide) (nI_toInt (by omega)) (fun c_166 => ?_) (fun c_166 => ?_)
                      · have eK : cnt (pK (ndf k set gon) wai rc) (j + 1) = cnt (pK (ndf k set gon) wai rc) j := cnt_n (decide_eq_false (by omega))
                        refine lv_iconst (v := nI (0)) hx hb dL_rounds_182 (by decide) ?_
                        refine lv_iadd hx hb dL_rounds_183 ?_
                        refine q_top (show (nI (kept + cnt (pK (ndf k set gon) wai rc) j) + nI (0)) = nI (kept + cnt (pK (ndf k set gon) wai rc) (j + 1)) from by rw [nI_add]; exact congrArg nI (by rw [eK]; omega)) ?_
                        refine q_iast (f := (nA k pat sent rc (rep + cnt (pR (ndf k set gon) wai rc) (j + 1)) (kept + cnt (pK (ndf k set gon) wai rc) j))) (j := 5) (y := kept + cnt (pK (ndf k set gon) wai rc) (j + 1)) hx hb hK hP hD hS 0 0 rfl rfl (by decide) (by decide) dL_rounds_184 (fun H locs hP hD hS => ?_)
                        have hP : va_P D vwCl ((wT cI q0 q1 q2 (un (nA k pat sent rc (rep + cnt (pR (ndf k set gon) wai rc) (j + 1)) (kept + cnt (pK (ndf k set gon) wai rc) j)) 5 (kept + cnt (pK (ndf k set gon) wai rc) (j + 1))) dat (rA los wai set bad gon)) ++ [(qn, .inl (cI, 6, .inl (nF (npf (ndf k set gon) rc))))]) H := hP
                        have hD : va_D A ((wT cI q0 q1 q2 (un (nA k pat sent rc (rep + cnt (pR (ndf k set gon) wai rc) (j + 1)) (kept + cnt (pK (ndf k set gon) wai rc) j)) 5 (kept + cnt (pK (ndf k set gon) wai rc) (j + 1))) dat (rA los wai set bad gon)) ++ [(qn, .inl (cI, 6, .inl (nF (npf (ndf k set gon) rc))))]) := hD
                        rw [unA_5] at hP hD
                        refine lv_iinc (v := nI (j + 1)) (lv' := [(4, .int (nI (j + 1))), (0, .ref (q0)), (1, .ref (q2)), (2, .ref (qn)), (3, .int (nI (mxn (ndf k set gon) rc))), (5, .int (nI (hmx (ndf k set gon) wai (wai j) rc))), (6, .int (nI (rc)))]) hx hb dL_rounds_185 hl (k := 4) rfl (show nI (j) + Int32.ofInt 1 = nI (j + 1) from nI_add (j) 1) (by decide) rfl (fun ls hl => ?_)
                        refine lv_goto (tgt := 71) hx hb dL_rounds_188 (by decide) ?_
                        exact ih71_3 (j + 1) (by omega) (by omega) _ _ hP hD hS ls (lv_sub hl [1, 2, 3, 4, 0] rfl)
                      · skip
                        refine lv_aload_n hx hb dL_rounds_169 rfl (lv_at hl 2 rfl) ?_
                        refine lv_iload hx hb dL_rounds_170 (lv_at hl 4 rfl) ?_
                        refine q_iald (f := (npf (ndf k set gon) rc)) (j := j) hx hb hK hP 3 0 rfl rfl (by omega) (by decide) dL_rounds_172 ?_
                        refine q_top (show nI ((npf (ndf k set gon) rc) j) = nI (ndf k set gon j) from congrArg nI (npf_at (by omega))) ?_
                        refine lv_iload hx hb dL_rounds_173 (lv_at hl 5 rfl) ?_
                        refine q_icmp_gt (u := ((ndf k set gon j : Nat) : Int)) (v := ((hmx (ndf k set gon) wai (wai j) rc : Nat) : Int)) (tgt := 182) hx hb dL_rounds_175 (by decide) (nI_toInt (by omega)) (nI_toInt (by omega)) (fun c_175 => ?_) (fun c_175 => ?_)
                        · have eK : cnt (pK (ndf k set gon) wai rc) (j + 1) = cnt (pK (ndf k set gon) wai rc) j := cnt_n (decide_eq_false (by omega))
                          refine lv_iconst (v := nI (0)) hx hb dL_rounds_182 (by decide) ?_
                          refine lv_iadd hx hb dL_rounds_183 ?_
                          refine q_top (show (nI (kept + cnt (pK (ndf k set gon) wai rc) j) + nI (0)) = nI (kept + cnt (pK (ndf k set gon) wai rc) (j + 1)) from by rw [nI_add]; exact congrArg nI (by rw [eK]; omega)) ?_
                          refine q_iast (f := (nA k pat sent rc (rep + cnt (pR (ndf k set gon) wai rc) (j + 1)) (kept + cnt (pK (ndf k set gon) wai rc) j))) (j := 5) (y := kept + cnt (pK (ndf k set gon) wai rc) (j + 1)) hx hb hK hP hD hS 0 0 rfl rfl (by decide) (by decide) dL_rounds_184 (fun H locs hP hD hS => ?_)
                          have hP : va_P D vwCl ((wT cI q0 q1 q2 (un (nA k pat sent rc (rep + cnt (pR (ndf k set gon) wai rc) (j + 1)) (kept + cnt (pK (ndf k set gon) wai rc) j)) 5 (kept + cnt (pK (ndf k set gon) wai rc) (j + 1))) dat (rA los wai set bad gon)) ++ [(qn, .inl (cI, 6, .inl (nF (npf (ndf k set gon) rc))))]) H := hP
                          have hD : va_D A ((wT cI q0 q1 q2 (un (nA k pat sent rc (rep + cnt (pR (ndf k set gon) wai rc) (j + 1)) (kept + cnt (pK (ndf k set gon) wai rc) j)) 5 (kept + cnt (pK (ndf k set gon) wai rc) (j + 1))) dat (rA los wai set bad gon)) ++ [(qn, .inl (cI, 6, .inl (nF (npf (ndf k set gon) rc))))]) := hD
                          rw [unA_5] at hP hD
                          refine lv_iinc (v := nI (j + 1)) (lv' := [(4, .int (nI (j + 1))), (0, .ref (q0)), (1, .ref (q2)), (2, .ref (qn)), (3, .int (nI (mxn (ndf k set gon) rc))), (5, .int (nI (hmx (ndf k set gon) wai (wai j) rc))), (6, .int (nI (rc)))]) hx hb dL_rounds_185 hl (k := 4) rfl (show nI (j) + Int32.ofInt 1 = nI (j + 1) from nI_add (j) 1) (by decide) rfl (fun ls hl => ?_)
                          refine lv_goto (tgt := 71) hx hb dL_rounds_188 (by decide) ?_
                          exact ih71_3 (j + 1) (by omega) (by omega) _ _ hP hD hS ls (lv_sub hl [1, 2, 3, 4, 0] rfl)
                        · have eK : cnt (pK (ndf k set gon) wai rc) (j + 1) = cnt (pK (ndf k set gon) wai rc) j + 1 := cnt_y (decide_eq_true (by omega))
                          refine lv_iconst (v := nI (1)) hx hb dL_rounds_178 (by decide) ?_
                          refine lv_goto (tgt := 183) hx hb dL_rounds_179 (by decide) ?_
                          refine lv_iadd hx hb dL_rounds_183 ?_
                          refine q_top (show (nI (kept + cnt (pK (ndf k set gon) wai rc) j) + nI (1)) = nI (kept + cnt (pK (ndf k set gon) wai rc) (j + 1)) from by rw [nI_add]; exact congrArg nI (by rw [eK]; omega)) ?_
                          refine q_iast (f := (nA k pat sent rc (rep + cnt (pR (ndf k set gon) wai rc) (j + 1)) (kept + cnt (pK (ndf k set gon) wai rc) j))) (j := 5) (y := kept + cnt (pK (ndf k set gon) wai rc) (j + 1)) hx hb hK hP hD hS 0 0 rfl rfl (by decide) (by decide) dL_rounds_184 (fun H locs hP hD hS => ?_)
                          have hP : va_P D vwCl ((wT cI q0 q1 q2 (un (nA k pat sent rc (rep + cnt (pR (ndf k set gon) wai rc) (j + 1)) (kept + cnt (pK (ndf k set gon) wai rc) j)) 5 (kept + cnt (pK (ndf k set gon) wai rc) (j + 1))) dat (rA los wai set bad gon)) ++ [(qn, .inl (cI, 6, .inl (nF (npf (ndf k set gon) rc))))]) H := hP
                          have hD : va_D A ((wT cI q0 q1 q2 (un (nA k pat sent rc (rep + cnt (pR (ndf k set gon) wai rc) (j + 1)) (kept + cnt (pK (ndf k set gon) wai rc) j)) 5 (kept + cnt (pK (ndf k set gon) wai rc) (j + 1))) dat (rA los wai set bad gon)) ++ [(qn, .inl (cI, 6, .inl (nF (npf (ndf k set gon) rc))))]) := hD
                          rw [unA_5] at hP hD
                          refine lv_iinc (v := nI (j + 1)) (lv' := [(4, .int (nI (j + 1))), (0, .ref (q0)), (1, .ref (q2)), (2, .ref (qn)), (3, .int (nI (mxn (ndf k set gon) rc))), (5, .int (nI (hmx (ndf k set gon) wai (wai j) rc))), (6, .int (nI (rc)))]) hx hb dL_rounds_185 hl (k := 4) rfl (show nI (j) + Int32.ofInt 1 = nI (j + 1) from nI_add (j) 1) (by decide) rfl (fun ls hl => ?_)
                          refine lv_goto (tgt := 71) hx hb dL_rounds_188 (by decide) ?_
                          exact ih71_3 (j + 1) (by omega) (by omega) _ _ hP hD hS ls (lv_sub hl [1, 2, 3, 4, 0] rfl)
                  · have hw9 := hwai i (by omega)
                    have hw8 := hwai j (by omega)
                    have hh9 := hmx_le (wai := wai) hnd (wai j) i
                    have hn8 := hnd i
                    refine lv_aload_n hx hb dL_rounds_93 rfl (lv_at hl 1 rfl) ?_
                    refine lv_iconst (v := nI (5)) hx hb dL_rounds_94 (by decide) ?_
                    refine lv_iload hx hb dL_rounds_95 (lv_at hl 6 rfl) ?_
                    refine lv_imul hx hb dL_rounds_97 ?_
                    refine q_top (show (nI (5) * nI (i)) = nI (5 * i) from pk_mul _ _) ?_
                    refine lv_iconst (v := nI (1)) hx hb dL_rounds_98 (by decide) ?_
                    refine lv_iadd hx hb dL_rounds_99 ?_
                    refine q_top (show (nI (5 * i) + nI (1)) = nI ((5 * i) + 1) from nI_add _ _) ?_
                    refine q_iald (f := (rA los wai set bad gon)) (j := (5 * i) + 1) hx hb hK hP 2 0 rfl rfl (by omega) (by decide) dL_rounds_100 ?_
                    refine q_top (show nI ((rA los wai set bad gon) ((5 * i) + 1)) = nI (wai i) from congrArg nI (rA_1 _ _ _ _ _ _)) ?_
                    refine lv_aload_n hx hb dL_rounds_101 rfl (lv_at hl 1 rfl) ?_
                    refine lv_iconst (v := nI (5)) hx hb dL_rounds_102 (by decide) ?_
                    refine lv_iload hx hb dL_rounds_103 (lv_at hl 4 rfl) ?_
                    refine lv_imul hx hb dL_rounds_105 ?_
                    refine q_top (show (nI (5) * nI (j)) = nI (5 * j) from pk_mul _ _) ?_
                    refine lv_iconst (v := nI (1)) hx hb dL_rounds_106 (by decide) ?_
                    refine lv_iadd hx hb dL_rounds_107 ?_
                    refine q_top (show (nI (5 * j) + nI (1)) = nI ((5 * j) + 1) from nI_add _ _) ?_
                    refine q_iald (f := (rA los wai set bad gon)) (j := (5 * j) + 1) hx hb hK hP 2 0 rfl rfl (by omega) (by decide) dL_rounds_108 ?_
                    refine q_top (show nI ((rA los wai set bad gon) ((5 * j) + 1)) = nI (wai j) from congrArg nI (rA_1 _ _ _ _ _ _)) ?_
                    refine q_icmp_ge (u := ((wai i : Nat) : Int)) (v := ((wai j : Nat) : Int)) (tgt := 128) hx hb dL_rounds_109 (by decide) (nI_toInt (by omega)) (nI_toInt (by omega)) (fun c_109 => ?_) (fun c_109 => ?_)
                    · have e5 : hmx (ndf k set gon) wai (wai j) (i + 1) = hmx (ndf k set gon) wai (wai j) i := if_neg (by omega)
                      refine lv_iload hx hb dL_rounds_128 (lv_at hl 5 rfl) ?_
                      refine q_top (show nI (hmx (ndf k set gon) wai (wai j) i) = nI (hmx (ndf k set gon) wai (wai j) (i + 1)) from congrArg nI e5.symm) ?_
                      refine lv_istore (lv' := [(5, .int (nI (hmx (ndf k set gon) wai (wai j) (i + 1)))), (0, .ref (q0)), (1, .ref (q2)), (2, .ref (qn)), (3, .int (nI (mxn (ndf k set gon) rc))), (4, .int (nI (j))), (6, .int (nI (i)))]) hx hb dL_rounds_130 hl (by decide) rfl (fun ls hl => ?_)
                      refine lv_iinc (v := nI (i + 1)) (lv' := [(6, .int (nI (i + 1))), (5, .int (nI (hmx (ndf k set gon) wai (wai j) (i + 1)))), (0, .ref (q0)), (1, .ref (q2)), (2, .ref (qn)), (3, .int (nI (mxn (ndf k set gon) rc))), (4, .int (nI (j)))]) hx hb dL_rounds_132 hl (k := 6) rfl (show nI (i) + Int32.ofInt 1 = nI (i + 1) from nI_add (i) 1) (by decide) rfl (fun ls hl => ?_)
                      refine lv_goto (tgt := 85) hx hb dL_rounds_135 (by decide) ?_
                      exact ih85_13 (i + 1) (by omega) (by omega) _ _ hP hD hS ls (lv_sub hl [2, 3, 4, 5, 6, 1, 0] rfl)
                    · skip
                      refine lv_aload_n hx hb dL_rounds_112 rfl (lv_at hl 2 rfl) ?_
                      refine lv_iload hx hb dL_rounds_113 (lv_at hl 6 rfl) ?_
                      refine q_iald (f := (npf (ndf k set gon) rc)) (j := i) hx hb hK hP 3 0 rfl rfl (by omega) (by decide) dL_rounds_115 ?_
                      refine q_top (show nI ((npf (ndf k set gon) rc) i) = nI (ndf k set gon i) from congrArg nI (npf_at (by omega))) ?_
                      refine lv_iload hx hb dL_rounds_116 (lv_at hl 5 rfl) ?_
                      refine q_icmp_le (u := ((ndf k set gon i : Nat) : Int)) (v := ((hmx (ndf k set gon) wai (wai j) i : Nat) : Int)) (tgt := 128) hx hb dL_rounds_118 (by decide) (nI_toInt (by omega)) (nI_toInt (by omega)) (fun c_118 => ?_) (fun c_118 => ?_)
                      · have e5 : hmx (ndf k set gon) wai (wai j) (i + 1) = hmx (ndf k set gon) wai (wai j) i := if_neg (by omega)
                        refine lv_iload hx hb dL_rounds_128 (lv_at hl 5 rfl) ?_
                        refine q_top (show nI (hmx (ndf k set gon) wai (wai j) i) = nI (hmx (ndf k set gon) wai (wai j) (i + 1)) from congrArg nI e5.symm) ?_
                        refine lv_istore (lv' := [(5, .int (nI (hmx (ndf k set gon) wai (wai j) (i + 1)))), (0, .ref (q0)), (1, .ref (q2)), (2, .ref (qn)), (3, .int (nI (mxn (ndf k set gon) rc))), (4, .int (nI (j))), (6, .int (nI (i)))]) hx hb dL_rounds_130 hl (by decide) rfl (fun ls hl => ?_)
                        refine lv_iinc (v := nI (i + 1)) (lv' := [(6, .int (nI (i + 1))), (5, .int (nI (hmx (ndf k set gon) wai (wai j) (i + 1)))), (0, .ref (q0)), (1, .ref (q2)), (2, .ref (qn)), (3, .int (nI (mxn (ndf k set gon) rc))), (4, .int (nI (j)))]) hx hb dL_rounds_132 hl (k := 6) rfl (show nI (i) + Int32.ofInt 1 = nI (i + 1) from nI_add (i) 1) (by decide) rfl (fun ls hl => ?_)
                        refine lv_goto (tgt := 85) hx hb dL_rounds_135 (by decide) ?_
                        exact ih85_13 (i + 1) (by omega) (by omega) _ _ hP hD hS ls (lv_sub hl [2, 3, 4, 5, 6, 1, 0] rfl)
                      · have e5 : hmx (ndf k set gon) wai (wai j) (i + 1) = ndf k set gon i := if_pos (by omega)
                        refine lv_aload_n hx hb dL_rounds_121 rfl (lv_at hl 2 rfl) ?_
                        refine lv_iload hx hb dL_rounds_122 (lv_at hl 6 rfl) ?_
                        refine q_iald (f := (npf (ndf k set gon) rc)) (j := i) hx hb hK hP 3 0 rfl rfl (by omega) (by decide) dL_rounds_124 ?_
                        refine q_top (show nI ((npf (ndf k set gon) rc) i) = nI (ndf k set gon i) from congrArg nI (npf_at (by omega))) ?_
                        refine q_top (show nI (ndf k set gon i) = nI (hmx (ndf k set gon) wai (wai j) (i + 1)) from congrArg nI e5.symm) ?_
                        refine lv_goto (tgt := 130) hx hb dL_rounds_125 (by decide) ?_
                        refine lv_istore (lv' := [(5, .int (nI (hmx (ndf k set gon) wai (wai j) (i + 1)))), (0, .ref (q0)), (1, .ref (q2)), (2, .ref (qn)), (3, .int (nI (mxn (ndf k set gon) rc))), (4, .int (nI (j))), (6, .int (nI (i)))]) hx hb dL_rounds_130 hl (by decide) rfl (fun ls hl => ?_)
                        refine lv_iinc (v := nI (i + 1)) (lv' := [(6, .int (nI (i + 1))), (5, .int (nI (hmx (ndf k set gon) wai (wai j) (i + 1)))), (0, .ref (q0)), (1, .ref (q2)), (2, .ref (qn)), (3, .int (nI (mxn (ndf k set gon) rc))), (4, .int (nI (j)))]) hx hb dL_rounds_132 hl (k := 6) rfl (show nI (i) + Int32.ofInt 1 = nI (i + 1) from nI_add (i) 1) (by decide) rfl (fun ls hl => ?_)
                        refine lv_goto (tgt := 85) hx hb dL_rounds_135 (by decide) ?_
                        exact ih85_13 (i + 1) (by omega) (by omega) _ _ hP hD hS ls (lv_sub hl [2, 3, 4, 5, 6, 1, 0] rfl)
              exact L85_13 _ (0) (Nat.lt_succ_self _) (by omega) _ _ hP hD hS ls (lv_sub hl [2, 3, 4, 5, 6, 1, 0] rfl)
        exact L71_3 _ (0) (Nat.lt_succ_self _) (by omega) _ _ hP hD hS ls (lv_sub hl [1, 2, 3, 4, 0] rfl)
      · have hg9 := hgon j (by omega)
        have hn7 := hnd j
        have hm7 := mxn_le hnd j
        refine lv_aload_n hx hb dL_rounds_18 rfl (lv_at hl 2 rfl) ?_
        refine lv_iload hx hb dL_rounds_19 (lv_at hl 4 rfl) ?_
        refine lv_aload_n hx hb dL_rounds_21 rfl (lv_at hl 1 rfl) ?_
        refine lv_iconst (v := nI (5)) hx hb dL_rounds_22 (by decide) ?_
        refine lv_iload hx hb dL_rounds_23 (lv_at hl 4 rfl) ?_
        refine lv_imul hx hb dL_rounds_25 ?_
        refine q_top (show (nI (5) * nI (j)) = nI (5 * j) from pk_mul _ _) ?_
        refine lv_iconst (v := nI (4)) hx hb dL_rounds_26 (by decide) ?_
        refine lv_iadd hx hb dL_rounds_27 ?_
        refine q_top (show (nI (5 * j) + nI (4)) = nI ((5 * j) + 4) from nI_add _ _) ?_
        refine q_iald (f := (rA los wai set bad gon)) (j := (5 * j) + 4) hx hb hK hP 2 0 rfl rfl (by omega) (by decide) dL_rounds_28 ?_
        refine q_top (show nI ((rA los wai set bad gon) ((5 * j) + 4)) = nI (gon j) from congrArg nI (rA_4 _ _ _ _ _ _)) ?_
        refine lv_iconst (v := nI (1)) hx hb dL_rounds_29 (by decide) ?_
        refine q_icmp_ne (u := ((gon j : Nat) : Int)) (v := ((1 : Nat) : Int)) (tgt := 37) hx hb dL_rounds_30 (by decide) (nI_toInt (by omega)) (nI_toInt (by omega)) (fun c_30 => ?_) (fun c_30 => ?_)
        · have hn9 : ndf k set gon j = k - pc (set j) := if_pos (by have := hgon j (by omega); omega)
          refine lv_aload_n hx hb dL_rounds_37 rfl (lv_at hl 0 rfl) ?_
          refine lv_aload_n hx hb dL_rounds_38 rfl (lv_at hl 1 rfl) ?_
          refine lv_iload hx hb dL_rounds_39 (lv_at hl 4 rfl) ?_
          have hPc := hP.sub (ws' := (wT cI q0 q1 q2 ((nA k pat sent rc rep kept)) dat ((rA los wai set bad gon)))) [0, 1, 2] rfl
          have hDc := hD.sub (ws' := (wT cI q0 q1 q2 ((nA k pat sent rc rep kept)) dat ((rA los wai set bad gon)))) [0, 1, 2] (by decide) rfl
          refine q_csi (va_runS (As := [.ref (q0), .ref (q2), .int (nI (j))]) (rest := [.int (nI (j)), .ref (qn)]) ⟨hx, hb, hml, hown, hts⟩ (c_L_need l D cI cZ cQ cL (q0) (q1) (q2) ((nA k pat sent rc rep kept)) (dat) ((rA los wai set bad gon)) (k) (set j) (j) H.size (rfl) (rA_2 _ _ _ _ _ _) (hk8) (hset j (by omega)) (by omega)) (va_cwS 3 hts gL_rounds_L_need rfl rfl rfl hd_L_need ⟨Nat.le_of_ble_eq_true rfl, Nat.le_of_ble_eq_true rfl⟩) (PW_s hPc hK hDc hN) rfl rfl hl.1 rfl (lv_room (Nat.le_of_ble_eq_true rfl)) dL_rounds_41 ⟨Nat.le_of_ble_eq_true rfl, Nat.le_of_ble_eq_true rfl⟩) (fun r_41 hr_41 => ?_)
          obtain rfl : r_41 = nI (k - pc (set j)) := hr_41
          refine q_top (show nI (k - pc (set j)) = nI (ndf k set gon j) from congrArg nI hn9.symm) ?_
          refine q_iast (f := (npf (ndf k set gon) j)) (j := j) (y := ndf k set gon j) hx hb hK hP hD hS 3 0 rfl rfl (by omega) (by decide) dL_rounds_44 (fun H locs hP hD hS => ?_)
          have hP : va_P D vwCl ((wT cI q0 q1 q2 (nA k pat sent rc rep kept) dat (rA los wai set bad gon)) ++ [(qn, .inl (cI, 6, .inl (nF (un (npf (ndf k set gon) j) j (ndf k set gon j)))))]) H := hP
          have hD : va_D A ((wT cI q0 q1 q2 (nA k pat sent rc rep kept) dat (rA los wai set bad gon)) ++ [(qn, .inl (cI, 6, .inl (nF (un (npf (ndf k set gon) j) j (ndf k set gon j)))))]) := hD
          have eW : ((wT cI q0 q1 q2 (nA k pat sent rc rep kept) dat (rA los wai set bad gon)) ++ [(qn, .inl (cI, 6, .inl (nF (un (npf (ndf k set gon) j) j (ndf k set gon j)))))]) = ((wT cI q0 q1 q2 (nA k pat sent rc rep kept) dat (rA los wai set bad gon)) ++ [(qn, .inl (cI, 6, .inl (nF (npf (ndf k set gon) (j + 1)))))]) := by rw [npf_s]
          rw [eW] at hP hD
          clear eW
          refine lv_aload_n hx hb dL_rounds_45 rfl (lv_at hl 2 rfl) ?_
          refine lv_iload hx hb dL_rounds_46 (lv_at hl 4 rfl) ?_
          refine q_iald (f := (npf (ndf k set gon) (j + 1))) (j := j) hx hb hK hP 3 0 rfl rfl (by omega) (by decide) dL_rounds_48 ?_
          refine q_top (show nI ((npf (ndf k set gon) (j + 1)) j) = nI (ndf k set gon j) from congrArg nI (npf_at (by omega))) ?_
          refine lv_iload_n hx hb dL_rounds_49 rfl (lv_at hl 3 rfl) ?_
          refine q_icmp_le (u := ((ndf k set gon j : Nat) : Int)) (v := ((mxn (ndf k set gon) j : Nat) : Int)) (tgt := 60) hx hb dL_rounds_50 (by decide) (nI_toInt (by omega)) (nI_toInt (by omega)) (fun c_50 => ?_) (fun c_50 => ?_)
          · have e3 : mxn (ndf k set gon) (j + 1) = mxn (ndf k set gon) j := if_neg (by omega)
            refine lv_iload_n hx hb dL_rounds_60 rfl (lv_at hl 3 rfl) ?_
            refine q_top (show nI (mxn (ndf k set gon) j) = nI (mxn (ndf k set gon) (j + 1)) from congrArg nI e3.symm) ?_
            refine lv_istore_n (lv' := [(3, .int (nI (mxn (ndf k set gon) (j + 1)))), (0, .ref (q0)), (1, .ref (q2)), (2, .ref (qn)), (4, .int (nI (j)))]) hx hb dL_rounds_61 rfl hl (by decide) rfl (fun ls hl => ?_)
            refine lv_iinc (v := nI (j + 1)) (lv' := [(4, .int (nI (j + 1))), (3, .int (nI (mxn (ndf k set gon) (j + 1)))), (0, .ref (q0)), (1, .ref (q2)), (2, .ref (qn))]) hx hb dL_rounds_62 hl (k := 4) rfl (show nI (j) + Int32.ofInt 1 = nI (j + 1) from nI_add (j) 1) (by decide) rfl (fun ls hl => ?_)
            refine lv_goto (tgt := 10) hx hb dL_rounds_65 (by decide) ?_
            exact ih10_1 (j + 1) (by omega) (by omega) _ _ hP hD hS ls (lv_sub hl [2, 3, 4, 1, 0] rfl)
          · have e3 : mxn (ndf k set gon) (j + 1) = ndf k set gon j := if_pos (by omega)
            refine lv_aload_n hx hb dL_rounds_53 rfl (lv_at hl 2 rfl) ?_
            refine lv_iload hx hb dL_rounds_54 (lv_at hl 4 rfl) ?_
            refine q_iald (f := (npf (ndf k set gon) (j + 1))) (j := j) hx hb hK hP 3 0 rfl rfl (by omega) (by decide) dL_rounds_56 ?_
            refine q_top (show nI ((npf (ndf k set gon) (j + 1)) j) = nI (ndf k set gon j) from congrArg nI (npf_at (by omega))) ?_
            refine q_top (show nI (ndf k set gon j) = nI (mxn (ndf k set gon) (j + 1)) from congrArg nI e3.symm) ?_
            refine lv_goto (tgt := 61) hx hb dL_rounds_57 (by decide) ?_
            refine lv_istore_n (lv' := [(3, .int (nI (mxn (ndf k set gon) (j + 1)))), (0, .ref (q0)), (1, .ref (q2)), (2, .ref (qn)), (4, .int (nI (j)))]) hx hb dL_rounds_61 rfl hl (by decide) rfl (fun ls hl => ?_)
            refine lv_iinc (v := nI (j + 1)) (lv' := [(4, .int (nI (j + 1))), (3, .int (nI (mxn (ndf k set gon) (j + 1)))), (0, .ref (q0)), (1, .ref (q2)), (2, .ref (qn))]) hx hb dL_rounds_62 hl (k := 4) rfl (show nI (j) + Int32.ofInt 1 = nI (j + 1) from nI_add (j) 1) (by decide) rfl (fun ls hl => ?_)
            refine lv_goto (tgt := 10) hx hb dL_rounds_65 (by decide) ?_
            exact ih10_1 (j + 1) (by omega) (by omega) _ _ hP hD hS ls (lv_sub hl [2, 3, 4, 1, 0] rfl)
        · have hn9 : ndf k set gon j = 0 := if_neg (by omega)
          refine lv_iconst (v := nI (0)) hx hb dL_rounds_33 (by decide) ?_
          refine q_top (show nI (0) = nI (ndf k set gon j) from congrArg nI hn9.symm) ?_
          refine lv_goto (tgt := 44) hx hb dL_rounds_34 (by decide) ?_
          refine q_iast (f := (npf (ndf k set gon) j)) (j := j) (y := ndf k set gon j) hx hb hK hP hD hS 3 0 rfl rfl (by omega) (by decide) dL_rounds_44 (fun H locs hP hD hS => ?_)
          have hP : va_P D vwCl ((wT cI q0 q1 q2 (nA k pat sent rc rep kept) dat (rA los wai set bad gon)) ++ [(qn, .inl (cI, 6, .inl (nF (un (npf (ndf k set gon) j) j (ndf k set gon j)))))]) H := hP
          have hD : va_D A ((wT cI q0 q1 q2 (nA k pat sent rc rep kept) dat (rA los wai set bad gon)) ++ [(qn, .inl (cI, 6, .inl (nF (un (npf (ndf k set gon) j) j (ndf k set gon j)))))]) := hD
          have eW : ((wT cI q0 q1 q2 (nA k pat sent rc rep kept) dat (rA los wai set bad gon)) ++ [(qn, .inl (cI, 6, .inl (nF (un (npf (ndf k set gon) j) j (ndf k set gon j)))))]) = ((wT cI q0 q1 q2 (nA k pat sent rc rep kept) dat (rA los wai set bad gon)) ++ [(qn, .inl (cI, 6, .inl (nF (npf (ndf k set gon) (j + 1)))))]) := by rw [npf_s]
          rw [eW] at hP hD
          clear eW
          refine lv_aload_n hx hb dL_rounds_45 rfl (lv_at hl 2 rfl) ?_
          refine lv_iload hx hb dL_rounds_46 (lv_at hl 4 rfl) ?_
          refine q_iald (f := (npf (ndf k set gon) (j + 1))) (j := j) hx hb hK hP 3 0 rfl rfl (by omega) (by decide) dL_rounds_48 ?_
          refine q_top (show nI ((npf (ndf k set gon) (j + 1)) j) = nI (ndf k set gon j) from congrArg nI (npf_at (by omega))) ?_
          refine lv_iload_n hx hb dL_rounds_49 rfl (lv_at hl 3 rfl) ?_
          refine q_icmp_le (u := ((ndf k set gon j : Nat) : Int)) (v := ((mxn (ndf k set gon) j : Nat) : Int)) (tgt := 60) hx hb dL_rounds_50 (by decide) (nI_toInt (by omega)) (nI_toInt (by omega)) (fun c_50 => ?_) (fun c_50 => ?_)
          · have e3 : mxn (ndf k set gon) (j + 1) = mxn (ndf k set gon) j := if_neg (by omega)
            refine lv_iload_n hx hb dL_rounds_60 rfl (lv_at hl 3 rfl) ?_
            refine q_top (show nI (mxn (ndf k set gon) j) = nI (mxn (ndf k set gon) (j + 1)) from congrArg nI e3.symm) ?_
            refine lv_istore_n (lv' := [(3, .int (nI (mxn (ndf k set gon) (j + 1)))), (0, .ref (q0)), (1, .ref (q2)), (2, .ref (qn)), (4, .int (nI (j)))]) hx hb dL_rounds_61 rfl hl (by decide) rfl (fun ls hl => ?_)
            refine lv_iinc (v := nI (j + 1)) (lv' := [(4, .int (nI (j + 1))), (3, .int (nI (mxn (ndf k set gon) (j + 1)))), (0, .ref (q0)), (1, .ref (q2)), (2, .ref (qn))]) hx hb dL_rounds_62 hl (k := 4) rfl (show nI (j) + Int32.ofInt 1 = nI (j + 1) from nI_add (j) 1) (by decide) rfl (fun ls hl => ?_)
            refine lv_goto (tgt := 10) hx hb dL_rounds_65 (by decide) ?_
            exact ih10_1 (j + 1) (by omega) (by omega) _ _ hP hD hS ls (lv_sub hl [2, 3, 4, 1, 0] rfl)
          · have e3 : mxn (ndf k set gon) (j + 1) = ndf k set gon j := if_pos (by omega)
            refine lv_aload_n hx hb dL_rounds_53 rfl (lv_at hl 2 rfl) ?_
            refine lv_iload hx hb dL_rounds_54 (lv_at hl 4 rfl) ?_
            refine q_iald (f := (npf (ndf k set gon) (j + 1))) (j := j) hx hb hK hP 3 0 rfl rfl (by omega) (by decide) dL_rounds_56 ?_
            refine q_top (show nI ((npf (ndf k set gon) (j + 1)) j) = nI (ndf k set gon j) from congrArg nI (npf_at (by omega))) ?_
            refine q_top (show nI (ndf k set gon j) = nI (mxn (ndf k set gon) (j + 1)) from congrArg nI e3.symm) ?_
            refine lv_goto (tgt := 61) hx hb dL_rounds_57 (by decide) ?_
            refine lv_istore_n (lv' := [(3, .int (nI (mxn (ndf k set gon) (j + 1)))), (0, .ref (q0)), (1, .ref (q2)), (2, .ref (qn)), (4, .int (nI (j)))]) hx hb dL_rounds_61 rfl hl (by decide) rfl (fun ls hl => ?_)
            refine lv_iinc (v := nI (j + 1)) (lv' := [(4, .int (nI (j + 1))), (3, .int (nI (mxn (ndf k set gon) (j + 1)))), (0, .ref (q0)), (1, .ref (q2)), (2, .ref (qn))]) hx hb dL_rounds_62 hl (k := 4) rfl (show nI (j) + Int32.ofInt 1 = nI (j + 1) from nI_add (j) 1) (by decide) rfl (fun ls hl => ?_)
            refine lv_goto (tgt := 10) hx hb dL_rounds_65 (by decide) ?_
            exact ih10_1 (j + 1) (by omega) (by omega) _ _ hP hD hS ls (lv_sub hl [2, 3, 4, 1, 0] rfl)
  have eW : ((wT cI q0 q1 q2 (nA k pat sent rc rep kept) dat (rA los wai set bad gon)) ++ [(qn, .inl (cI, 6, .inl (nF ((fun _ => 0)))))]) = ((wT cI q0 q1 q2 (nA k pat sent rc rep kept) dat (rA los wai set bad gon)) ++ [(qn, .inl (cI, 6, .inl (nF (npf (ndf k set gon) 0))))]) := by rw [npf_0]
  rw [eW] at hP hD
  clear eW
  exact L10_1 _ (0) (Nat.lt_succ_self _) (by omega) _ _ hP hD hS ls (lv_sub hl [3, 4, 2, 1, 0] rfl)
