/-! the sender's numbers, without the machine -/
def pcn (s : Nat) : Nat → Nat
  | 0 => 0
  | i + 1 => pcn s i + s / 2 ^ i % 2
def pc (s : Nat) : Nat := pcn s 16
def bc1 (s : Nat) : Nat := s - ((s / 2 ^ 1) &&& 1431655765)
def bc2 (y : Nat) : Nat := (y &&& 858993459) + ((y / 2 ^ 2) &&& 858993459)
def bc3 (y : Nat) : Nat := (y + y / 2 ^ 4) &&& 252645135
def bc4 (y : Nat) : Nat := y + y / 2 ^ 8
def bc5 (y : Nat) : Nat := y + y / 2 ^ 16
/-! the counting of bits, tried at every number below 65536, in sixteen parts -/
theorem bc_h0 : ∀ a, a < 16 → ∀ b, b < 256 → bc5 (bc4 (bc3 (bc2 (bc1 ((0 * 16 + a) * 256 + b))))) &&& 63 = pc ((0 * 16 + a) * 256 + b) := by decide +kernel
theorem bc_h1 : ∀ a, a < 16 → ∀ b, b < 256 → bc5 (bc4 (bc3 (bc2 (bc1 ((1 * 16 + a) * 256 + b))))) &&& 63 = pc ((1 * 16 + a) * 256 + b) := by decide +kernel
theorem bc_h2 : ∀ a, a < 16 → ∀ b, b < 256 → bc5 (bc4 (bc3 (bc2 (bc1 ((2 * 16 + a) * 256 + b))))) &&& 63 = pc ((2 * 16 + a) * 256 + b) := by decide +kernel
theorem bc_h3 : ∀ a, a < 16 → ∀ b, b < 256 → bc5 (bc4 (bc3 (bc2 (bc1 ((3 * 16 + a) * 256 + b))))) &&& 63 = pc ((3 * 16 + a) * 256 + b) := by decide +kernel
theorem bc_h4 : ∀ a, a < 16 → ∀ b, b < 256 → bc5 (bc4 (bc3 (bc2 (bc1 ((4 * 16 + a) * 256 + b))))) &&& 63 = pc ((4 * 16 + a) * 256 + b) := by decide +kernel
theorem bc_h5 : ∀ a, a < 16 → ∀ b, b < 256 → bc5 (bc4 (bc3 (bc2 (bc1 ((5 * 16 + a) * 256 + b))))) &&& 63 = pc ((5 * 16 + a) * 256 + b) := by decide +kernel
theorem bc_h6 : ∀ a, a < 16 → ∀ b, b < 256 → bc5 (bc4 (bc3 (bc2 (bc1 ((6 * 16 + a) * 256 + b))))) &&& 63 = pc ((6 * 16 + a) * 256 + b) := by decide +kernel
theorem bc_h7 : ∀ a, a < 16 → ∀ b, b < 256 → bc5 (bc4 (bc3 (bc2 (bc1 ((7 * 16 + a) * 256 + b))))) &&& 63 = pc ((7 * 16 + a) * 256 + b) := by decide +kernel
theorem bc_h8 : ∀ a, a < 16 → ∀ b, b < 256 → bc5 (bc4 (bc3 (bc2 (bc1 ((8 * 16 + a) * 256 + b))))) &&& 63 = pc ((8 * 16 + a) * 256 + b) := by decide +kernel
theorem bc_h9 : ∀ a, a < 16 → ∀ b, b < 256 → bc5 (bc4 (bc3 (bc2 (bc1 ((9 * 16 + a) * 256 + b))))) &&& 63 = pc ((9 * 16 + a) * 256 + b) := by decide +kernel
theorem bc_h10 : ∀ a, a < 16 → ∀ b, b < 256 → bc5 (bc4 (bc3 (bc2 (bc1 ((10 * 16 + a) * 256 + b))))) &&& 63 = pc ((10 * 16 + a) * 256 + b) := by decide +kernel
theorem bc_h11 : ∀ a, a < 16 → ∀ b, b < 256 → bc5 (bc4 (bc3 (bc2 (bc1 ((11 * 16 + a) * 256 + b))))) &&& 63 = pc ((11 * 16 + a) * 256 + b) := by decide +kernel
theorem bc_h12 : ∀ a, a < 16 → ∀ b, b < 256 → bc5 (bc4 (bc3 (bc2 (bc1 ((12 * 16 + a) * 256 + b))))) &&& 63 = pc ((12 * 16 + a) * 256 + b) := by decide +kernel
theorem bc_h13 : ∀ a, a < 16 → ∀ b, b < 256 → bc5 (bc4 (bc3 (bc2 (bc1 ((13 * 16 + a) * 256 + b))))) &&& 63 = pc ((13 * 16 + a) * 256 + b) := by decide +kernel
theorem bc_h14 : ∀ a, a < 16 → ∀ b, b < 256 → bc5 (bc4 (bc3 (bc2 (bc1 ((14 * 16 + a) * 256 + b))))) &&& 63 = pc ((14 * 16 + a) * 256 + b) := by decide +kernel
theorem bc_h15 : ∀ a, a < 16 → ∀ b, b < 256 → bc5 (bc4 (bc3 (bc2 (bc1 ((15 * 16 + a) * 256 + b))))) &&& 63 = pc ((15 * 16 + a) * 256 + b) := by decide +kernel
theorem bc_ok {s : Nat} (h : s < 65536) : bc5 (bc4 (bc3 (bc2 (bc1 s)))) &&& 63 = pc s := by
  have e : (s / 4096 * 16 + s / 256 % 16) * 256 + s % 256 = s := by omega
  have ha : s / 256 % 16 < 16 := by omega
  have hb : s % 256 < 256 := by omega
  have hk : s / 4096 < 16 := by omega
  generalize s / 256 % 16 = a at e ha
  generalize s % 256 = b at e hb
  generalize s / 4096 = k at e hk
  subst e
  rcases (show k = 0 ∨ k = 1 ∨ k = 2 ∨ k = 3 ∨ k = 4 ∨ k = 5 ∨ k = 6 ∨ k = 7 ∨ k = 8 ∨ k = 9 ∨ k = 10 ∨ k = 11 ∨ k = 12 ∨ k = 13 ∨ k = 14 ∨ k = 15 by omega) with rfl | rfl | rfl | rfl | rfl | rfl | rfl | rfl | rfl | rfl | rfl | rfl | rfl | rfl | rfl | rfl
  · exact bc_h0 a ha b hb
  · exact bc_h1 a ha b hb
  · exact bc_h2 a ha b hb
  · exact bc_h3 a ha b hb
  · exact bc_h4 a ha b hb
  · exact bc_h5 a ha b hb
  · exact bc_h6 a ha b hb
  · exact bc_h7 a ha b hb
  · exact bc_h8 a ha b hb
  · exact bc_h9 a ha b hb
  · exact bc_h10 a ha b hb
  · exact bc_h11 a ha b hb
  · exact bc_h12 a ha b hb
  · exact bc_h13 a ha b hb
  · exact bc_h14 a ha b hb
  · exact bc_h15 a ha b hb
