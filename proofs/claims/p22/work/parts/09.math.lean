/-! the field of 256 numbers, polynomials over it, elimination: pure facts -/
abbrev B8 : Type := BitVec 8
def bI (x : B8) : Int32 := nI x.toNat
/-- one step of the shifting -/
def gx (a : Nat) : Nat := if 255 < a * 2 then (a * 2) ^^^ 285 else a * 2
def gsh (a : Nat) : Nat → Nat
  | 0 => a
  | i + 1 => gx (gsh a i)
def gsu (a b : Nat) : Nat → Nat
  | 0 => 0
  | i + 1 => if b / 2 ^ i % 2 = 1 then gsu a b i ^^^ gsh a i else gsu a b i
/-- the product -/
def fm (a b : B8) : B8 := BitVec.ofNat 8 (gsu a.toNat b.toNat 8)
theorem gx_lt : ∀ a, a < 256 → gx a < 256 := by decide +kernel
theorem gsh_lt {a : Nat} (h : a < 256) : ∀ i, gsh a i < 256
  | 0 => h
  | i + 1 => gx_lt _ (gsh_lt h i)
theorem gsu_lt {a : Nat} (b : Nat) (h : a < 256) : ∀ i, gsu a b i < 256
  | 0 => by show (0 : Nat) < 256; decide
  | i + 1 => by
    unfold gsu
    split
    · exact Nat.xor_lt_two_pow (n := 8) (gsu_lt b h i) (gsh_lt h i)
    · exact gsu_lt b h i
theorem fm_nat (a b : B8) : (fm a b).toNat = gsu a.toNat b.toNat 8 := by
  unfold fm
  rw [BitVec.toNat_ofNat]
  exact Nat.mod_eq_of_lt (gsu_lt _ a.isLt 8)
theorem b_all {P : B8 → Prop} (h : ∀ n, n < 256 → P (BitVec.ofNat 8 n)) (b : B8) : P b := by
  have h1 := h b.toNat b.isLt
  rw [BitVec.ofNat_toNat, BitVec.setWidth_eq] at h1
  exact h1
theorem nat_xor_mod2 (a b : Nat) : (a ^^^ b) % 2 = (a % 2 + b % 2) % 2 := by
  have h1 : (a ^^^ b) % 2 = (a % 2) ^^^ (b % 2) := by
    have := Nat.xor_mod_two_pow (a := a) (b := b) (n := 1)
    simpa using this
  rw [h1]
  rcases Nat.mod_two_eq_zero_or_one a with h | h <;> rcases Nat.mod_two_eq_zero_or_one b with h2 | h2 <;> rw [h, h2] <;> rfl
theorem nat_xor_div (a b i : Nat) : (a ^^^ b) / 2 ^ i = a / 2 ^ i ^^^ b / 2 ^ i := by
  rw [← Nat.shiftRight_eq_div_pow, ← Nat.shiftRight_eq_div_pow, ← Nat.shiftRight_eq_div_pow, Nat.shiftRight_xor_distrib]
theorem nat_xor4 (a b c d : Nat) : (a ^^^ b) ^^^ (c ^^^ d) = (a ^^^ c) ^^^ (b ^^^ d) := by
  rw [Nat.xor_assoc, Nat.xor_assoc, ← Nat.xor_assoc b, Nat.xor_comm b c, Nat.xor_assoc c]
theorem gsu_addR (a b c : Nat) : ∀ i, gsu a (b ^^^ c) i = gsu a b i ^^^ gsu a c i
  | 0 => (Nat.xor_self 0).symm
  | i + 1 => by
    have ih := gsu_addR a b c i
    show (if (b ^^^ c) / 2 ^ i % 2 = 1 then gsu a (b ^^^ c) i ^^^ gsh a i else gsu a (b ^^^ c) i) = (if b / 2 ^ i % 2 = 1 then gsu a b i ^^^ gsh a i else gsu a b i) ^^^ (if c / 2 ^ i % 2 = 1 then gsu a c i ^^^ gsh a i else gsu a c i)
    rw [nat_xor_div, nat_xor_mod2, ih]
    rcases Nat.mod_two_eq_zero_or_one (b / 2 ^ i) with h | h <;> rcases Nat.mod_two_eq_zero_or_one (c / 2 ^ i) with h2 | h2 <;> rw [h, h2]
    · simp
    · simp [Nat.xor_assoc]
    · rw [if_pos (by decide), if_pos (by decide), if_neg (by decide), Nat.xor_assoc, Nat.xor_comm (gsu a c i), ← Nat.xor_assoc]
    · rw [if_neg (by decide), if_pos (by decide), if_pos (by decide), nat_xor4, Nat.xor_self, Nat.xor_zero]
theorem fm_addR (a b c : B8) : fm a (b ^^^ c) = fm a b ^^^ fm a c := by
  apply BitVec.eq_of_toNat_eq
  rw [BitVec.toNat_xor, fm_nat, fm_nat, fm_nat, BitVec.toNat_xor, gsu_addR]
/-- an additive function is known by its values at the bits -/
def bsum (f : B8 → B8) (b : B8) : B8 := (if b.toNat / 1 % 2 = 1 then f 1 else 0) ^^^ (if b.toNat / 2 % 2 = 1 then f 2 else 0) ^^^ (if b.toNat / 4 % 2 = 1 then f 4 else 0) ^^^ (if b.toNat / 8 % 2 = 1 then f 8 else 0) ^^^ (if b.toNat / 16 % 2 = 1 then f 16 else 0) ^^^ (if b.toNat / 32 % 2 = 1 then f 32 else 0) ^^^ (if b.toNat / 64 % 2 = 1 then f 64 else 0) ^^^ (if b.toNat / 128 % 2 = 1 then f 128 else 0)
theorem bsum_id : ∀ n, n < 256 → bsum (fun x => x) (BitVec.ofNat 8 n) = BitVec.ofNat 8 n := by decide +kernel
theorem add0 {f : B8 → B8} (h : ∀ a b, f (a ^^^ b) = f a ^^^ f b) : f 0 = 0 := by
  have h1 := h 0 0
  rw [BitVec.xor_self, BitVec.xor_self] at h1
  exact h1
theorem add_ite {f : B8 → B8} (h : ∀ a b, f (a ^^^ b) = f a ^^^ f b) (c : Prop) [Decidable c] (x : B8) : f (if c then x else 0) = if c then f x else 0 := by
  split
  · rfl
  · exact add0 h
theorem add_bsum {f : B8 → B8} (h : ∀ a b, f (a ^^^ b) = f a ^^^ f b) (b : B8) : f b = bsum f b := by
  have hb : bsum (fun x => x) b = b := b_all (P := fun b => bsum (fun x => x) b = b) bsum_id b
  have h1 : f (bsum (fun x => x) b) = bsum f b := by
    unfold bsum
    rw [h, h, h, h, h, h, h, add_ite h, add_ite h, add_ite h, add_ite h, add_ite h, add_ite h, add_ite h, add_ite h]
  rw [hb] at h1
  exact h1
theorem add_eq {f g : B8 → B8} (hf : ∀ a b, f (a ^^^ b) = f a ^^^ f b) (hg : ∀ a b, g (a ^^^ b) = g a ^^^ g b) (h1 : f 1 = g 1) (h2 : f 2 = g 2) (h4 : f 4 = g 4) (h8 : f 8 = g 8) (h16 : f 16 = g 16) (h32 : f 32 = g 32) (h64 : f 64 = g 64) (h128 : f 128 = g 128) (b : B8) : f b = g b := by
  rw [add_bsum hf, add_bsum hg]
  unfold bsum
  rw [h1, h2, h4, h8, h16, h32, h64, h128]
/-- the shifting as a function of the field -/
def fx (a : B8) : B8 := BitVec.ofNat 8 (gx a.toNat)
theorem fx_nat (a : B8) : (fx a).toNat = gx a.toNat := by
  unfold fx
  rw [BitVec.toNat_ofNat]
  exact Nat.mod_eq_of_lt (gx_lt _ a.isLt)
theorem fx_2 : ∀ n, n < 256 → fx (BitVec.ofNat 8 n) = fm (BitVec.ofNat 8 n) 2 := by decide +kernel
theorem fx_mul (a : B8) : fx a = fm a 2 := b_all (P := fun a => fx a = fm a 2) fx_2 a
theorem fx_bits : ∀ n, n < 256 → fx (BitVec.ofNat 8 n) = bsum fx (BitVec.ofNat 8 n) := by decide +kernel
theorem bsum_add (f : B8 → B8) (a b : B8) : bsum f (a ^^^ b) = bsum f a ^^^ bsum f b := by
  have key : ∀ (i : Nat) (x : B8), (if (a ^^^ b).toNat / 2 ^ i % 2 = 1 then x else 0) = (if a.toNat / 2 ^ i % 2 = 1 then x else 0) ^^^ (if b.toNat / 2 ^ i % 2 = 1 then x else 0) := by
    intro i x
    rw [BitVec.toNat_xor, nat_xor_div, nat_xor_mod2]
    rcases Nat.mod_two_eq_zero_or_one (a.toNat / 2 ^ i) with h | h <;> rcases Nat.mod_two_eq_zero_or_one (b.toNat / 2 ^ i) with h2 | h2 <;> rw [h, h2] <;> simp
  have x4 : ∀ a b c d : B8, (a ^^^ b) ^^^ (c ^^^ d) = (a ^^^ c) ^^^ (b ^^^ d) := by
    intro a b c d
    rw [BitVec.xor_assoc, BitVec.xor_assoc, ← BitVec.xor_assoc b, BitVec.xor_comm b c, BitVec.xor_assoc c]
  have k0 := key 0 (f 1)
  have k1 := key 1 (f 2)
  have k2 := key 2 (f 4)
  have k3 := key 3 (f 8)
  have k4 := key 4 (f 16)
  have k5 := key 5 (f 32)
  have k6 := key 6 (f 64)
  have k7 := key 7 (f 128)
  simp only [Nat.reducePow] at k0 k1 k2 k3 k4 k5 k6 k7
  unfold bsum
  rw [k0, k1, k2, k3, k4, k5, k6, k7]
  ac_rfl
theorem fx_add (a b : B8) : fx (a ^^^ b) = fx a ^^^ fx b := by
  have h : ∀ x, fx x = bsum fx x := b_all (P := fun x => fx x = bsum fx x) fx_bits
  rw [h, h a, h b, bsum_add]
theorem gsh_add {a b : Nat} (ha : a < 256) (hb : b < 256) : ∀ i, gsh (a ^^^ b) i = gsh a i ^^^ gsh b i
  | 0 => rfl
  | i + 1 => by
    have ih := gsh_add ha hb i
    have h1 := fx_add (BitVec.ofNat 8 (gsh a i)) (BitVec.ofNat 8 (gsh b i))
    have h2 := congrArg BitVec.toNat h1
    rw [BitVec.toNat_xor, fx_nat, fx_nat, fx_nat, BitVec.toNat_xor, BitVec.toNat_ofNat, BitVec.toNat_ofNat, Nat.mod_eq_of_lt (gsh_lt ha i), Nat.mod_eq_of_lt (gsh_lt hb i)] at h2
    show gx (gsh (a ^^^ b) i) = gx (gsh a i) ^^^ gx (gsh b i)
    rw [ih, h2]
theorem gsu_addL {a b : Nat} (ha : a < 256) (hb : b < 256) (c : Nat) : ∀ i, gsu (a ^^^ b) c i = gsu a c i ^^^ gsu b c i
  | 0 => (Nat.xor_self 0).symm
  | i + 1 => by
    have ih := gsu_addL ha hb c i
    show (if c / 2 ^ i % 2 = 1 then gsu (a ^^^ b) c i ^^^ gsh (a ^^^ b) i else gsu (a ^^^ b) c i) = (if c / 2 ^ i % 2 = 1 then gsu a c i ^^^ gsh a i else gsu a c i) ^^^ (if c / 2 ^ i % 2 = 1 then gsu b c i ^^^ gsh b i else gsu b c i)
    split
    · rw [ih, gsh_add ha hb, nat_xor4]
    · exact ih
theorem fm_addL (a b c : B8) : fm (a ^^^ b) c = fm a c ^^^ fm b c := by
  apply BitVec.eq_of_toNat_eq
  rw [BitVec.toNat_xor, fm_nat, fm_nat, fm_nat, BitVec.toNat_xor, gsu_addL a.isLt b.isLt]
theorem fm_c1 : ∀ n, n < 256 → (fm (BitVec.ofNat 8 n) 1 = fm 1 (BitVec.ofNat 8 n) ∧ fm (BitVec.ofNat 8 n) 2 = fm 2 (BitVec.ofNat 8 n) ∧ fm (BitVec.ofNat 8 n) 4 = fm 4 (BitVec.ofNat 8 n) ∧ fm (BitVec.ofNat 8 n) 8 = fm 8 (BitVec.ofNat 8 n) ∧ fm (BitVec.ofNat 8 n) 16 = fm 16 (BitVec.ofNat 8 n) ∧ fm (BitVec.ofNat 8 n) 32 = fm 32 (BitVec.ofNat 8 n) ∧ fm (BitVec.ofNat 8 n) 64 = fm 64 (BitVec.ofNat 8 n) ∧ fm (BitVec.ofNat 8 n) 128 = fm 128 (BitVec.ofNat 8 n)) := by decide +kernel
theorem fm_comm (a b : B8) : fm a b = fm b a := by
  obtain ⟨h1, h2, h4, h8, h16, h32, h64, h128⟩ := b_all (P := fun a => fm a 1 = fm 1 a ∧ fm a 2 = fm 2 a ∧ fm a 4 = fm 4 a ∧ fm a 8 = fm 8 a ∧ fm a 16 = fm 16 a ∧ fm a 32 = fm 32 a ∧ fm a 64 = fm 64 a ∧ fm a 128 = fm 128 a) fm_c1 a
  exact add_eq (f := fun b => fm a b) (g := fun b => fm b a) (fun x y => fm_addR a x y) (fun x y => fm_addL x y a) h1 h2 h4 h8 h16 h32 h64 h128 b
/-- x (a b) = a (x b) -/
theorem fm_a1 : ∀ n, n < 256 → (fm (BitVec.ofNat 8 n) (fx 1) = fx (fm (BitVec.ofNat 8 n) 1) ∧ fm (BitVec.ofNat 8 n) (fx 2) = fx (fm (BitVec.ofNat 8 n) 2) ∧ fm (BitVec.ofNat 8 n) (fx 4) = fx (fm (BitVec.ofNat 8 n) 4) ∧ fm (BitVec.ofNat 8 n) (fx 8) = fx (fm (BitVec.ofNat 8 n) 8) ∧ fm (BitVec.ofNat 8 n) (fx 16) = fx (fm (BitVec.ofNat 8 n) 16) ∧ fm (BitVec.ofNat 8 n) (fx 32) = fx (fm (BitVec.ofNat 8 n) 32) ∧ fm (BitVec.ofNat 8 n) (fx 64) = fx (fm (BitVec.ofNat 8 n) 64) ∧ fm (BitVec.ofNat 8 n) (fx 128) = fx (fm (BitVec.ofNat 8 n) 128)) := by decide +kernel
theorem fm_fx (a b : B8) : fm a (fx b) = fx (fm a b) := by
  obtain ⟨h1, h2, h4, h8, h16, h32, h64, h128⟩ := b_all (P := fun a => fm a (fx 1) = fx (fm a 1) ∧ fm a (fx 2) = fx (fm a 2) ∧ fm a (fx 4) = fx (fm a 4) ∧ fm a (fx 8) = fx (fm a 8) ∧ fm a (fx 16) = fx (fm a 16) ∧ fm a (fx 32) = fx (fm a 32) ∧ fm a (fx 64) = fx (fm a 64) ∧ fm a (fx 128) = fx (fm a 128)) fm_a1 a
  exact add_eq (f := fun b => fm a (fx b)) (g := fun b => fx (fm a b)) (fun x y => by rw [fx_add, fm_addR]) (fun x y => by rw [fm_addR, fx_add]) h1 h2 h4 h8 h16 h32 h64 h128 b
theorem fm_one1 : ∀ n, n < 256 → fm (BitVec.ofNat 8 n) 1 = BitVec.ofNat 8 n := by decide +kernel
theorem fm_1 (a : B8) : fm a 1 = a := b_all (P := fun a => fm a 1 = a) fm_one1 a
theorem fm_0 (a : B8) : fm a 0 = 0 := add0 (f := fun b => fm a b) (fun x y => fm_addR a x y)
theorem fm_0l (a : B8) : fm 0 a = 0 := by rw [fm_comm, fm_0]
theorem fm_1l (a : B8) : fm 1 a = a := by rw [fm_comm, fm_1]
def fxp : Nat → B8
  | 0 => 1
  | i + 1 => fx (fxp i)
theorem fm_fxp (a b : B8) : ∀ i, fm (fm a b) (fxp i) = fm a (fm b (fxp i))
  | 0 => by rw [show fxp 0 = 1 from rfl, fm_1, fm_1]
  | i + 1 => by rw [show fxp (i + 1) = fx (fxp i) from rfl, fm_fx, fm_fx, fm_fx, fm_fxp a b i]
theorem fm_assoc (a b c : B8) : fm (fm a b) c = fm a (fm b c) :=
  add_eq (f := fun c => fm (fm a b) c) (g := fun c => fm a (fm b c)) (fun x y => fm_addR _ x y) (fun x y => by rw [fm_addR, fm_addR])
    (fm_fxp a b 0) (fm_fxp a b 1) (fm_fxp a b 2) (fm_fxp a b 3) (fm_fxp a b 4) (fm_fxp a b 5) (fm_fxp a b 6) (fm_fxp a b 7) c
/-- the inverse as the class finds it: power and square -/
def fps (a : B8) : Nat → B8 × B8
  | 0 => (1, a)
  | i + 1 => (fm (fps a i).1 (fm (fps a i).2 (fps a i).2), fm (fps a i).2 (fps a i).2)
def finv (a : B8) : B8 := (fps a 7).1
theorem fm_inv1 : ∀ n, n < 256 → (BitVec.ofNat 8 n = 0 ∨ fm (BitVec.ofNat 8 n) (finv (BitVec.ofNat 8 n)) = 1) := by decide +kernel
theorem fm_inv {a : B8} (h : a ≠ 0) : fm a (finv a) = 1 := by
  rcases b_all (P := fun a => a = 0 ∨ fm a (finv a) = 1) fm_inv1 a with h1 | h1
  · exact absurd h1 h
  · exact h1
theorem fm_cancel {a b c : B8} (h : a ≠ 0) (e : fm a b = fm a c) : b = c := by
  have h1 : fm (finv a) (fm a b) = fm (finv a) (fm a c) := by rw [e]
  rw [← fm_assoc, ← fm_assoc, fm_comm (finv a), fm_inv h, fm_1l, fm_1l] at h1
  exact h1
theorem fm_ne {a b : B8} (ha : a ≠ 0) (hb : b ≠ 0) : fm a b ≠ 0 := fun h => hb (fm_cancel ha (by rw [h, fm_0]))
theorem fm_inv_un {a b : B8} (e : fm a b = 1) : b = finv a := by
  have h : a ≠ 0 := fun h => by
    rw [h, fm_0l] at e
    exact absurd e (by decide)
  exact fm_cancel h (by rw [e, fm_inv h])
theorem x_s (a : B8) : a ^^^ a = 0 := BitVec.xor_self
theorem x_z (a : B8) : a ^^^ 0 = a := BitVec.xor_zero
theorem z_x (a : B8) : 0 ^^^ a = a := BitVec.zero_xor
theorem x_eq {a b : B8} (h : a ^^^ b = 0) : a = b := by
  have h1 : (a ^^^ b) ^^^ b = 0 ^^^ b := by rw [h]
  rw [BitVec.xor_assoc, x_s, x_z, z_x] at h1
  exact h1
theorem x_ne {a b : B8} (h : a ≠ b) : a ^^^ b ≠ 0 := fun e => h (x_eq e)
theorem x4 (a b c d : B8) : (a ^^^ b) ^^^ (c ^^^ d) = (a ^^^ c) ^^^ (b ^^^ d) := by
  rw [BitVec.xor_assoc, BitVec.xor_assoc, ← BitVec.xor_assoc b, BitVec.xor_comm b c, BitVec.xor_assoc c]
