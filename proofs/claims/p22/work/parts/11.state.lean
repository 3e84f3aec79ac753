/-! numbers: what the machine's operations are on them -/
theorem nI_bv (n : Nat) : (nI n).toBitVec = BitVec.ofNat 32 n := rfl
theorem i_inj {x y : Int32} (h : x.toBitVec = y.toBitVec) : x = y := Int32.toBitVec_inj.mp h
theorem nI_xor (a b : Nat) : nI a ^^^ nI b = nI (a ^^^ b) := i_inj (by
  show (nI a).toBitVec ^^^ (nI b).toBitVec = BitVec.ofNat 32 (a ^^^ b)
  rw [nI_bv, nI_bv]
  apply BitVec.eq_of_toNat_eq
  simp [Nat.xor_mod_two_pow])
theorem nI_and (a b : Nat) : nI a &&& nI b = nI (a &&& b) := i_inj (by
  show (nI a).toBitVec &&& (nI b).toBitVec = BitVec.ofNat 32 (a &&& b)
  rw [nI_bv, nI_bv]
  apply BitVec.eq_of_toNat_eq
  simp [Nat.and_mod_two_pow])
theorem nI_or (a b : Nat) : nI a ||| nI b = nI (a ||| b) := i_inj (by
  show (nI a).toBitVec ||| (nI b).toBitVec = BitVec.ofNat 32 (a ||| b)
  rw [nI_bv, nI_bv]
  apply BitVec.eq_of_toNat_eq
  simp [Nat.or_mod_two_pow])
theorem nI_and1 (a : Nat) : nI a &&& nI 1 = nI (a % 2) := by rw [nI_and, Nat.and_one_is_mod]
theorem nI_s31 : ∀ k, k < 32 → ((nI k &&& 31).toBitVec.smod 32).toNat = k := by decide +kernel
theorem nI_shl {n k : Nat} (hk : k < 32) (h : n * 2 ^ k < 2 ^ 32) : nI n <<< (nI k &&& 31) = nI (n * 2 ^ k) := pk_shlN _ k (nI_s31 k hk) h
theorem nI_shl1 {n : Nat} (h : n < 2 ^ 31) : nI n <<< (nI 1 &&& 31) = nI (n * 2) := by
  have := nI_shl (n := n) (k := 1) (by decide) (by omega)
  rw [this]
theorem nI_shl2 {k : Nat} (hk : k < 31) : nI 1 <<< (nI k &&& 31) = nI (2 ^ k) := by
  have h2 : (2 : Nat) ^ k ≤ 2 ^ 30 := Nat.pow_le_pow_right (by decide) (by omega)
  have := nI_shl (n := 1) (k := k) (by omega) (by omega)
  rw [this, Nat.one_mul]
theorem nI_shr {n k : Nat} (hn : n < 2 ^ 31) (hk : k < 32) : nI n >>> (nI k &&& 31) = nI (n / 2 ^ k) := pk_shrN hn _ k (nI_s31 k hk)
theorem nI_u31 : ∀ k, k < 32 → (((nI k).toUInt32 &&& Int32.toUInt32 31).toBitVec % 32).toNat = k := by decide +kernel
theorem nI_ushr {n k : Nat} (hn : n < 2 ^ 32) (hk : k < 32) : ((nI n).toUInt32 >>> ((nI k).toUInt32 &&& Int32.toUInt32 31)).toInt32 = nI (n / 2 ^ k) := pk_ushrN hn _ k (nI_u31 k hk)
theorem bI_lt (x : B8) : x.toNat < 256 := x.isLt
theorem bI_toInt (x : B8) : (bI x).toInt = ((x.toNat : Nat) : Int) := nI_toInt (by have := x.isLt; omega)
theorem bI_xor (x y : B8) : bI x ^^^ bI y = bI (x ^^^ y) := by
  unfold bI
  rw [nI_xor, BitVec.toNat_xor]
theorem bI_of {n : Nat} (h : n < 256) : nI n = bI (BitVec.ofNat 8 n) := by
  unfold bI
  rw [BitVec.toNat_ofNat, Nat.mod_eq_of_lt (by omega)]
theorem bI_inj {x y : B8} (h : bI x = bI y) : x = y := by
  have h1 := congrArg Int32.toInt h
  rw [bI_toInt, bI_toInt] at h1
  exact BitVec.eq_of_toNat_eq (by omega)
def bF (f : Nat → B8) : Nat → Int32 := fun i => bI (f i)
def ub (f : Nat → B8) (j : Nat) (y : B8) : Nat → B8 := fun i => if i = j then y else f i
def um (M : Nat → Nat → B8) (r : Nat) (g : Nat → B8) : Nat → Nat → B8 := fun i => if i = r then g else M i
theorem bF_nF (f : Nat → B8) : bF f = nF (fun i => (f i).toNat) := rfl
theorem upd_bF (f : Nat → B8) (j : Nat) (y : B8) : upd (bF f) j (bI y) = bF (ub f j y) := by
  funext i
  by_cases h : i = j
  · simp [upd, bF, ub, h]
  · simp [upd, bF, ub, h]
theorem ub_s (f : Nat → B8) (j : Nat) (y : B8) : ub f j y j = y := by simp [ub]
theorem ub_n (f : Nat → B8) {j i : Nat} (y : B8) (h : i ≠ j) : ub f j y i = f i := by simp [ub, h]
abbrev TY (cI cZ cQ cL : ClassId) : List (ClassId × FieldType) := [(cI, .int), (cZ, .boolean), (cQ, .array .int), (cL, .int)]
abbrev QV {S : Type} (D : va_G) (A : Nat → Prop) (post : S → Prop) (w1 : S → va_W) : Array Value → State → Outcome → State → Prop := va_Qv post (fun u t => va_P D vwCl (w1 u) t.heap ∧ va_D A (w1 u)) A
abbrev QI {S : Type} (D : va_G) (A : Nat → Prop) (post : Int32 → S → Prop) (w1 : S → va_W) : Array Value → State → Outcome → State → Prop := va_Qi post (fun u t => va_P D vwCl (w1 u) t.heap ∧ va_D A (w1 u)) A
/-! the worlds -/
abbrev wPt (cI : ClassId) (a0 a1 a2 n : Nat) (p v : Nat → B8) : va_W := [(a0, .inr (1, [.ref a1, .ref a2, .int (nI n)])), (a1, .inl (cI, 8, .inl (bF p))), (a2, .inl (cI, 8, .inl (bF v)))]
def eqR (cI : ClassId) (ra : Nat → Nat) (M : Nat → Nat → B8) : va_W := (List.range 8).map (fun r => (ra r, .inl (cI, 9, .inl (bF (M r)))))
abbrev wEq (cI cQ : ClassId) (a0 a1 : Nat) (ra : Nat → Nat) (n : Nat) (M : Nat → Nat → B8) : va_W := [(a0, .inr (0, [.ref a1, .int (nI n)])), (a1, .inl (cQ, 8, .inr (.inr (.inr (.inr (fun i => if i < 8 then some (ra i) else none))))))] ++ eqR cI ra M
abbrev wEP (cI cQ : ClassId) (a0 a1 : Nat) (ra : Nat → Nat) (b0 b1 b2 pn : Nat) (pp pv : Nat → B8) (n : Nat) (M : Nat → Nat → B8) : va_W := [(b0, .inr (1, [.ref b1, .ref b2, .int (nI pn)])), (b1, .inl (cI, 8, .inl (bF pp))), (b2, .inl (cI, 8, .inl (bF pv))), (a0, .inr (0, [.ref a1, .int (nI n)])), (a1, .inl (cQ, 8, .inr (.inr (.inr (.inr (fun i => if i < 8 then some (ra i) else none))))))] ++ eqR cI ra M
abbrev wA (cI cZ : ClassId) (ad : Nat → Nat) (pat sent rep kept rc : Nat) (los wai set bad gon : Nat → Nat) (bk : Nat) (bp bv : Nat → B8) : va_W := [(ad 0, .inr (2, [.ref (ad 6), .int (nI pat), .int (nI sent), .int (nI rep), .int (nI kept), .int (nI rc), .ref (ad 1), .ref (ad 2), .ref (ad 3), .ref (ad 4), .ref (ad 5), .ref (ad 9), .ref (ad 12)])),
  (ad 1, .inl (cI, 6, .inl (nF los))), (ad 2, .inl (cI, 6, .inl (nF wai))), (ad 3, .inl (cI, 6, .inl (nF set))), (ad 4, .inl (cI, 6, .inl (nF bad))), (ad 5, .inl (cZ, 6, .inl (nF gon))),
  (ad 6, .inr (1, [.ref (ad 7), .ref (ad 8), .int (nI bk)])), (ad 7, .inl (cI, 8, .inl (bF bp))), (ad 8, .inl (cI, 8, .inl (bF bv)))]
abbrev wF (cI cZ cQ : ClassId) (ad : Nat → Nat) (pat sent rep kept rc : Nat) (los wai set bad gon : Nat → Nat) (bk : Nat) (bp bv : Nat → B8) (ck : Nat) (cp cv : Nat → B8) (ek : Nat) (em : Nat → Nat → B8) : va_W := [(ad 0, .inr (2, [.ref (ad 6), .int (nI pat), .int (nI sent), .int (nI rep), .int (nI kept), .int (nI rc), .ref (ad 1), .ref (ad 2), .ref (ad 3), .ref (ad 4), .ref (ad 5), .ref (ad 9), .ref (ad 12)])),
  (ad 1, .inl (cI, 6, .inl (nF los))), (ad 2, .inl (cI, 6, .inl (nF wai))), (ad 3, .inl (cI, 6, .inl (nF set))), (ad 4, .inl (cI, 6, .inl (nF bad))), (ad 5, .inl (cZ, 6, .inl (nF gon))),
  (ad 6, .inr (1, [.ref (ad 7), .ref (ad 8), .int (nI bk)])), (ad 7, .inl (cI, 8, .inl (bF bp))), (ad 8, .inl (cI, 8, .inl (bF bv))),
  (ad 9, .inr (1, [.ref (ad 10), .ref (ad 11), .int (nI ck)])), (ad 10, .inl (cI, 8, .inl (bF cp))), (ad 11, .inl (cI, 8, .inl (bF cv))),
  (ad 12, .inr (0, [.ref (ad 13), .int (nI ek)])), (ad 13, .inl (cQ, 8, .inr (.inr (.inr (.inr (fun i => if i < 8 then some (ad (14 + i)) else none))))))] ++ eqR cI (fun i => ad (14 + i)) em
theorem eq_row {X : va_W} {cI : ClassId} {ra : Nat → Nat} {M : Nat → Nat → B8} {r : Nat} (h : r < 8) : (X ++ eqR cI ra M)[X.length + r]? = some (ra r, .inl (cI, 9, .inl (bF (M r)))) := by
  rw [List.getElem?_append_right (by omega), Nat.add_sub_cancel_left]
  simp [eqR, h]
theorem eq_set {X : va_W} {cI : ClassId} {ra : Nat → Nat} {M : Nat → Nat → B8} {r : Nat} {g : Nat → B8} (h : r < 8) : (X ++ eqR cI ra M).set (X.length + r) (ra r, .inl (cI, 9, .inl (bF g))) = X ++ eqR cI ra (um M r g) := by
  rw [List.set_append_right _ _ (by omega), Nat.add_sub_cancel_left]
  congr 1
  apply List.ext_getElem?
  intro i
  rw [List.getElem?_set]
  by_cases e : r = i
  · subst e
    rw [if_pos rfl]
    simp [eqR, h, um]
  · rw [if_neg e]
    simp only [eqR, List.getElem?_map]
    rcases Nat.lt_or_ge i 8 with h2 | h2
    · rw [List.getElem?_range h2]
      simp only [Option.map_some, um, if_neg (fun q : i = r => e q.symm)]
    · simp [List.getElem?_eq_none, h2]
section Q4
variable {p : Program} {l : Launch} {e : Env} {R : Room} {s : State} {m : MethodId} {args : Array Value} {below : List Frame} {meth : Method} {c : Code} {H : Heap} {locs : List Loc} {cells slots : Nat} {Q : State → Prop}
variable {cc : ByteArray} {pc : Nat} {ls : Array Slot} {rest : List Value} {D : va_G} {cl : List vw_C} {A : Nat → Prop} {a : Nat} {tys : List (ClassId × FieldType)} {ws : va_W} {H0 : Heap}
theorem q_ialdB (hexec : p.tables.exec = Jvm.exec) (hb : c.code = cc) (hK : va_K D cl tys s) (hP : va_P D cl ws H) (q0 t0 : Nat) {cA : ClassId} {n j : Nat} {f : Nat → B8} (ha : ws[q0]? = some (a, .inl (cA, n, .inl (bF f)))) (ht : tys[t0]? = some (cA, .int)) (hj : j < n) (hn : n < 2 ^ 31) (hdg : decode cc pc = .ok (.iaload, 1))
    (kk : W p l e R s m args below meth c H locs cells slots Q (F0 m (pc + 1) ls (.int (bI (f j)) :: rest))) : W p l e R s m args below meth c H locs cells slots Q (F0 m pc ls (.int (nI j) :: .ref a :: rest)) :=
  q_iald (f := fun i => (f i).toNat) hexec hb hK hP q0 t0 ha ht hj hn hdg kk
theorem q_iastB (hexec : p.tables.exec = Jvm.exec) (hb : c.code = cc) (hK : va_K D cl tys s) (hP : va_P D cl ws H) (hD : va_D A ws) (hS : va_S A H0 H locs) (q0 t0 : Nat) {cA : ClassId} {n j : Nat} {y : B8} {f : Nat → B8} (ha : ws[q0]? = some (a, .inl (cA, n, .inl (bF f)))) (ht : tys[t0]? = some (cA, .int)) (hj : j < n) (hn : n < 2 ^ 31) (hdg : decode cc pc = .ok (.iastore, 1))
    (kk : ∀ (H1 : Heap) (locs1 : List Loc), va_P D cl (ws.set q0 (a, .inl (cA, n, .inl (bF (ub f j y))))) H1 → va_D A (ws.set q0 (a, .inl (cA, n, .inl (bF (ub f j y))))) → va_S A H0 H1 locs1 → W p l e R s m args below meth c H1 locs1 cells slots Q (F0 m (pc + 1) ls rest)) : W p l e R s m args below meth c H locs cells slots Q (F0 m pc ls (.int (bI y) :: .int (nI j) :: .ref a :: rest)) := by
  refine va_iast hexec hb hK hP hD hS q0 t0 ha ht (vp_in_nI hj hn) hdg ?_
  rw [nI_clamp (by omega), upd_bF]
  exact kk
end Q4
theorem vx_bad_51 : ∀ w ∈ (vx_atS RX3 51 "java/lang/IllegalArgumentException" ["java/lang/RuntimeException", "java/lang/Exception"]).filter (fun w => !goodWord w), w ∈ cstW := by decide +kernel
theorem vx_good_51 : ∀ w ∈ Cond.classLink RX3 47 "java/lang/IllegalArgumentException" :: Cond.initialized "java/lang/IllegalArgumentException" :: vx_atS RX3 51 "java/lang/IllegalArgumentException" ["java/lang/RuntimeException", "java/lang/Exception"], vx_ot w = true := by decide +kernel
theorem vx_bad_74 : ∀ w ∈ (vx_atS RX3 74 "java/lang/IllegalStateException" ["java/lang/RuntimeException", "java/lang/Exception"]).filter (fun w => !goodWord w), w ∈ cstW := by decide +kernel
theorem vx_good_74 : ∀ w ∈ Cond.classLink RX3 70 "java/lang/IllegalStateException" :: Cond.initialized "java/lang/IllegalStateException" :: vx_atS RX3 74 "java/lang/IllegalStateException" ["java/lang/RuntimeException", "java/lang/Exception"], vx_ot w = true := by decide +kernel
theorem vx_bad_133 : ∀ w ∈ (vx_atS RX3 133 "java/lang/IndexOutOfBoundsException" ["java/lang/RuntimeException", "java/lang/Exception"]).filter (fun w => !goodWord w), w ∈ cstW := by decide +kernel
theorem vx_good_133 : ∀ w ∈ Cond.classLink RX3 129 "java/lang/IndexOutOfBoundsException" :: Cond.initialized "java/lang/IndexOutOfBoundsException" :: vx_atS RX3 133 "java/lang/IndexOutOfBoundsException" ["java/lang/RuntimeException", "java/lang/Exception"], vx_ot w = true := by decide +kernel
theorem hd_X0_init : yX0_init.cls ≠ "java/lang/invoke/MethodHandle" ∧ yX0_init.cls ≠ "java/lang/invoke/VarHandle" ∧ (parseMethodDescriptor yX0_init.desc).map (fun d => d.parameters.length) = some 0 := by decide +kernel
theorem hd_X0_write : yX0_write.cls ≠ "java/lang/invoke/MethodHandle" ∧ yX0_write.cls ≠ "java/lang/invoke/VarHandle" ∧ (parseMethodDescriptor yX0_write.desc).map (fun d => d.parameters.length) = some 1 := by decide +kernel
theorem hd_X0_solve : yX0_solve.cls ≠ "java/lang/invoke/MethodHandle" ∧ yX0_solve.cls ≠ "java/lang/invoke/VarHandle" ∧ (parseMethodDescriptor yX0_solve.desc).map (fun d => d.parameters.length) = some 0 := by decide +kernel
theorem hd_X0_scaleRow : yX0_scaleRow.cls ≠ "java/lang/invoke/MethodHandle" ∧ yX0_scaleRow.cls ≠ "java/lang/invoke/VarHandle" ∧ (parseMethodDescriptor yX0_scaleRow.desc).map (fun d => d.parameters.length) = some 2 := by decide +kernel
theorem hd_X0_addMultiple : yX0_addMultiple.cls ≠ "java/lang/invoke/MethodHandle" ∧ yX0_addMultiple.cls ≠ "java/lang/invoke/VarHandle" ∧ (parseMethodDescriptor yX0_addMultiple.desc).map (fun d => d.parameters.length) = some 3 := by decide +kernel
theorem hd_X0_polynomialAt : yX0_polynomialAt.cls ≠ "java/lang/invoke/MethodHandle" ∧ yX0_polynomialAt.cls ≠ "java/lang/invoke/VarHandle" ∧ (parseMethodDescriptor yX0_polynomialAt.desc).map (fun d => d.parameters.length) = some 1 := by decide +kernel
theorem hd_X1_product : yX1_product.cls ≠ "java/lang/invoke/MethodHandle" ∧ yX1_product.cls ≠ "java/lang/invoke/VarHandle" ∧ (parseMethodDescriptor yX1_product.desc).map (fun d => d.parameters.length) = some 2 := by decide +kernel
theorem hd_X1_inverse : yX1_inverse.cls ≠ "java/lang/invoke/MethodHandle" ∧ yX1_inverse.cls ≠ "java/lang/invoke/VarHandle" ∧ (parseMethodDescriptor yX1_inverse.desc).map (fun d => d.parameters.length) = some 1 := by decide +kernel
theorem hd_X2_init : yX2_init.cls ≠ "java/lang/invoke/MethodHandle" ∧ yX2_init.cls ≠ "java/lang/invoke/VarHandle" ∧ (parseMethodDescriptor yX2_init.desc).map (fun d => d.parameters.length) = some 0 := by decide +kernel
theorem hd_X2_clear : yX2_clear.cls ≠ "java/lang/invoke/MethodHandle" ∧ yX2_clear.cls ≠ "java/lang/invoke/VarHandle" ∧ (parseMethodDescriptor yX2_clear.desc).map (fun d => d.parameters.length) = some 0 := by decide +kernel
theorem hd_X2_add : yX2_add.cls ≠ "java/lang/invoke/MethodHandle" ∧ yX2_add.cls ≠ "java/lang/invoke/VarHandle" ∧ (parseMethodDescriptor yX2_add.desc).map (fun d => d.parameters.length) = some 2 := by decide +kernel
theorem hd_X2_polynomialAt : yX2_polynomialAt.cls ≠ "java/lang/invoke/MethodHandle" ∧ yX2_polynomialAt.cls ≠ "java/lang/invoke/VarHandle" ∧ (parseMethodDescriptor yX2_polynomialAt.desc).map (fun d => d.parameters.length) = some 1 := by decide +kernel
theorem hd_X2_weight : yX2_weight.cls ≠ "java/lang/invoke/MethodHandle" ∧ yX2_weight.cls ≠ "java/lang/invoke/VarHandle" ∧ (parseMethodDescriptor yX2_weight.desc).map (fun d => d.parameters.length) = some 2 := by decide +kernel
theorem hd_X3_init : yX3_init.cls ≠ "java/lang/invoke/MethodHandle" ∧ yX3_init.cls ≠ "java/lang/invoke/VarHandle" ∧ (parseMethodDescriptor yX3_init.desc).map (fun d => d.parameters.length) = some 0 := by decide +kernel
theorem hd_X3_begin : yX3_begin.cls ≠ "java/lang/invoke/MethodHandle" ∧ yX3_begin.cls ≠ "java/lang/invoke/VarHandle" ∧ (parseMethodDescriptor yX3_begin.desc).map (fun d => d.parameters.length) = some 2 := by decide +kernel
theorem hd_X3_setDatum : yX3_setDatum.cls ≠ "java/lang/invoke/MethodHandle" ∧ yX3_setDatum.cls ≠ "java/lang/invoke/VarHandle" ∧ (parseMethodDescriptor yX3_setDatum.desc).map (fun d => d.parameters.length) = some 2 := by decide +kernel
theorem hd_X3_join : yX3_join.cls ≠ "java/lang/invoke/MethodHandle" ∧ yX3_join.cls ≠ "java/lang/invoke/VarHandle" ∧ (parseMethodDescriptor yX3_join.desc).map (fun d => d.parameters.length) = some 2 := by decide +kernel
theorem hd_X3_setLosses : yX3_setLosses.cls ≠ "java/lang/invoke/MethodHandle" ∧ yX3_setLosses.cls ≠ "java/lang/invoke/VarHandle" ∧ (parseMethodDescriptor yX3_setLosses.desc).map (fun d => d.parameters.length) = some 2 := by decide +kernel
theorem hd_X3_setWait : yX3_setWait.cls ≠ "java/lang/invoke/MethodHandle" ∧ yX3_setWait.cls ≠ "java/lang/invoke/VarHandle" ∧ (parseMethodDescriptor yX3_setWait.desc).map (fun d => d.parameters.length) = some 2 := by decide +kernel
theorem hd_X3_send : yX3_send.cls ≠ "java/lang/invoke/MethodHandle" ∧ yX3_send.cls ≠ "java/lang/invoke/VarHandle" ∧ (parseMethodDescriptor yX3_send.desc).map (fun d => d.parameters.length) = some 1 := by decide +kernel
theorem hd_X3_round : yX3_round.cls ≠ "java/lang/invoke/MethodHandle" ∧ yX3_round.cls ≠ "java/lang/invoke/VarHandle" ∧ (parseMethodDescriptor yX3_round.desc).map (fun d => d.parameters.length) = some 0 := by decide +kernel
theorem hd_X3_sent : yX3_sent.cls ≠ "java/lang/invoke/MethodHandle" ∧ yX3_sent.cls ≠ "java/lang/invoke/VarHandle" ∧ (parseMethodDescriptor yX3_sent.desc).map (fun d => d.parameters.length) = some 0 := by decide +kernel
theorem hd_X3_receivers : yX3_receivers.cls ≠ "java/lang/invoke/MethodHandle" ∧ yX3_receivers.cls ≠ "java/lang/invoke/VarHandle" ∧ (parseMethodDescriptor yX3_receivers.desc).map (fun d => d.parameters.length) = some 0 := by decide +kernel
theorem hd_X3_reports : yX3_reports.cls ≠ "java/lang/invoke/MethodHandle" ∧ yX3_reports.cls ≠ "java/lang/invoke/VarHandle" ∧ (parseMethodDescriptor yX3_reports.desc).map (fun d => d.parameters.length) = some 0 := by decide +kernel
theorem hd_X3_keptBack : yX3_keptBack.cls ≠ "java/lang/invoke/MethodHandle" ∧ yX3_keptBack.cls ≠ "java/lang/invoke/VarHandle" ∧ (parseMethodDescriptor yX3_keptBack.desc).map (fun d => d.parameters.length) = some 0 := by decide +kernel
theorem hd_X3_has : yX3_has.cls ≠ "java/lang/invoke/MethodHandle" ∧ yX3_has.cls ≠ "java/lang/invoke/VarHandle" ∧ (parseMethodDescriptor yX3_has.desc).map (fun d => d.parameters.length) = some 1 := by decide +kernel
theorem hd_X3_need : yX3_need.cls ≠ "java/lang/invoke/MethodHandle" ∧ yX3_need.cls ≠ "java/lang/invoke/VarHandle" ∧ (parseMethodDescriptor yX3_need.desc).map (fun d => d.parameters.length) = some 1 := by decide +kernel
theorem hd_X3_isDropped : yX3_isDropped.cls ≠ "java/lang/invoke/MethodHandle" ∧ yX3_isDropped.cls ≠ "java/lang/invoke/VarHandle" ∧ (parseMethodDescriptor yX3_isDropped.desc).map (fun d => d.parameters.length) = some 1 := by decide +kernel
theorem hd_X3_badRounds : yX3_badRounds.cls ≠ "java/lang/invoke/MethodHandle" ∧ yX3_badRounds.cls ≠ "java/lang/invoke/VarHandle" ∧ (parseMethodDescriptor yX3_badRounds.desc).map (fun d => d.parameters.length) = some 1 := by decide +kernel
theorem hd_X3_times : yX3_times.cls ≠ "java/lang/invoke/MethodHandle" ∧ yX3_times.cls ≠ "java/lang/invoke/VarHandle" ∧ (parseMethodDescriptor yX3_times.desc).map (fun d => d.parameters.length) = some 2 := by decide +kernel
theorem hd_X3_packet : yX3_packet.cls ≠ "java/lang/invoke/MethodHandle" ∧ yX3_packet.cls ≠ "java/lang/invoke/VarHandle" ∧ (parseMethodDescriptor yX3_packet.desc).map (fun d => d.parameters.length) = some 1 := by decide +kernel
theorem hd_X3_rebuilt : yX3_rebuilt.cls ≠ "java/lang/invoke/MethodHandle" ∧ yX3_rebuilt.cls ≠ "java/lang/invoke/VarHandle" ∧ (parseMethodDescriptor yX3_rebuilt.desc).map (fun d => d.parameters.length) = some 2 := by decide +kernel
theorem hd_X3_rebuiltByElimination : yX3_rebuiltByElimination.cls ≠ "java/lang/invoke/MethodHandle" ∧ yX3_rebuiltByElimination.cls ≠ "java/lang/invoke/VarHandle" ∧ (parseMethodDescriptor yX3_rebuiltByElimination.desc).map (fun d => d.parameters.length) = some 2 := by decide +kernel
theorem hd_X3_isFieldNumber : yX3_isFieldNumber.cls ≠ "java/lang/invoke/MethodHandle" ∧ yX3_isFieldNumber.cls ≠ "java/lang/invoke/VarHandle" ∧ (parseMethodDescriptor yX3_isFieldNumber.desc).map (fun d => d.parameters.length) = some 1 := by decide +kernel
theorem hd_X3_demandLosses : yX3_demandLosses.cls ≠ "java/lang/invoke/MethodHandle" ∧ yX3_demandLosses.cls ≠ "java/lang/invoke/VarHandle" ∧ (parseMethodDescriptor yX3_demandLosses.desc).map (fun d => d.parameters.length) = some 1 := by decide +kernel
theorem hd_X3_demandWait : yX3_demandWait.cls ≠ "java/lang/invoke/MethodHandle" ∧ yX3_demandWait.cls ≠ "java/lang/invoke/VarHandle" ∧ (parseMethodDescriptor yX3_demandWait.desc).map (fun d => d.parameters.length) = some 1 := by decide +kernel
theorem hd_X3_demandReceiver : yX3_demandReceiver.cls ≠ "java/lang/invoke/MethodHandle" ∧ yX3_demandReceiver.cls ≠ "java/lang/invoke/VarHandle" ∧ (parseMethodDescriptor yX3_demandReceiver.desc).map (fun d => d.parameters.length) = some 1 := by decide +kernel
theorem hd_X3_demandPlace : yX3_demandPlace.cls ≠ "java/lang/invoke/MethodHandle" ∧ yX3_demandPlace.cls ≠ "java/lang/invoke/VarHandle" ∧ (parseMethodDescriptor yX3_demandPlace.desc).map (fun d => d.parameters.length) = some 1 := by decide +kernel
theorem hd_X3_demandRebuilding : yX3_demandRebuilding.cls ≠ "java/lang/invoke/MethodHandle" ∧ yX3_demandRebuilding.cls ≠ "java/lang/invoke/VarHandle" ∧ (parseMethodDescriptor yX3_demandRebuilding.desc).map (fun d => d.parameters.length) = some 2 := by decide +kernel
theorem hd_X3_startBlock : yX3_startBlock.cls ≠ "java/lang/invoke/MethodHandle" ∧ yX3_startBlock.cls ≠ "java/lang/invoke/VarHandle" ∧ (parseMethodDescriptor yX3_startBlock.desc).map (fun d => d.parameters.length) = some 2 := by decide +kernel
theorem hd_X3_needOf : yX3_needOf.cls ≠ "java/lang/invoke/MethodHandle" ∧ yX3_needOf.cls ≠ "java/lang/invoke/VarHandle" ∧ (parseMethodDescriptor yX3_needOf.desc).map (fun d => d.parameters.length) = some 1 := by decide +kernel
theorem hd_X3_isLiveAndLacks : yX3_isLiveAndLacks.cls ≠ "java/lang/invoke/MethodHandle" ∧ yX3_isLiveAndLacks.cls ≠ "java/lang/invoke/VarHandle" ∧ (parseMethodDescriptor yX3_isLiveAndLacks.desc).map (fun d => d.parameters.length) = some 1 := by decide +kernel
theorem hd_X3_completeCount : yX3_completeCount.cls ≠ "java/lang/invoke/MethodHandle" ∧ yX3_completeCount.cls ≠ "java/lang/invoke/VarHandle" ∧ (parseMethodDescriptor yX3_completeCount.desc).map (fun d => d.parameters.length) = some 0 := by decide +kernel
theorem hd_X3_sendPackets : yX3_sendPackets.cls ≠ "java/lang/invoke/MethodHandle" ∧ yX3_sendPackets.cls ≠ "java/lang/invoke/VarHandle" ∧ (parseMethodDescriptor yX3_sendPackets.desc).map (fun d => d.parameters.length) = some 1 := by decide +kernel
theorem hd_X3_sendNextPacket : yX3_sendNextPacket.cls ≠ "java/lang/invoke/MethodHandle" ∧ yX3_sendNextPacket.cls ≠ "java/lang/invoke/VarHandle" ∧ (parseMethodDescriptor yX3_sendNextPacket.desc).map (fun d => d.parameters.length) = some 0 := by decide +kernel
theorem hd_X3_hearReports : yX3_hearReports.cls ≠ "java/lang/invoke/MethodHandle" ∧ yX3_hearReports.cls ≠ "java/lang/invoke/VarHandle" ∧ (parseMethodDescriptor yX3_hearReports.desc).map (fun d => d.parameters.length) = some 0 := by decide +kernel
theorem hd_X3_hearReportsAt : yX3_hearReportsAt.cls ≠ "java/lang/invoke/MethodHandle" ∧ yX3_hearReportsAt.cls ≠ "java/lang/invoke/VarHandle" ∧ (parseMethodDescriptor yX3_hearReportsAt.desc).map (fun d => d.parameters.length) = some 2 := by decide +kernel
theorem hd_X3_countBadRounds : yX3_countBadRounds.cls ≠ "java/lang/invoke/MethodHandle" ∧ yX3_countBadRounds.cls ≠ "java/lang/invoke/VarHandle" ∧ (parseMethodDescriptor yX3_countBadRounds.desc).map (fun d => d.parameters.length) = some 0 := by decide +kernel
theorem hd_X3_chooseLowest : yX3_chooseLowest.cls ≠ "java/lang/invoke/MethodHandle" ∧ yX3_chooseLowest.cls ≠ "java/lang/invoke/VarHandle" ∧ (parseMethodDescriptor yX3_chooseLowest.desc).map (fun d => d.parameters.length) = some 1 := by decide +kernel
theorem hd_X3_chooseHighest : yX3_chooseHighest.cls ≠ "java/lang/invoke/MethodHandle" ∧ yX3_chooseHighest.cls ≠ "java/lang/invoke/VarHandle" ∧ (parseMethodDescriptor yX3_chooseHighest.desc).map (fun d => d.parameters.length) = some 1 := by decide +kernel
theorem hd_X3_chooseIfWanted : yX3_chooseIfWanted.cls ≠ "java/lang/invoke/MethodHandle" ∧ yX3_chooseIfWanted.cls ≠ "java/lang/invoke/VarHandle" ∧ (parseMethodDescriptor yX3_chooseIfWanted.desc).map (fun d => d.parameters.length) = some 2 := by decide +kernel
theorem hd_J6_bitCount_0f7a4 : yJ6_bitCount_0f7a4.cls ≠ "java/lang/invoke/MethodHandle" ∧ yJ6_bitCount_0f7a4.cls ≠ "java/lang/invoke/VarHandle" ∧ (parseMethodDescriptor yJ6_bitCount_0f7a4.desc).map (fun d => d.parameters.length) = some 1 := by decide +kernel
