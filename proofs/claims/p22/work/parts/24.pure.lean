/-! the law's own sender, without the machine -/
theorem pcn_shift (n : Nat) : ∀ i, pcn n (i + 1) = n % 2 + pcn (n / 2) i
  | 0 => by
    show 0 + n / 2 ^ 0 % 2 = n % 2 + 0
    rw [Nat.pow_zero, Nat.div_one]
    omega
  | i + 1 => by
    show pcn n (i + 1) + n / 2 ^ (i + 1) % 2 = n % 2 + (pcn (n / 2) i + n / 2 / 2 ^ i % 2)
    rw [pcn_shift n i, Nat.div_div_eq_div_mul, Nat.pow_succ, Nat.mul_comm (2 ^ i) 2, Nat.add_assoc]
theorem nat_and_mod2 (a b : Nat) : (a &&& b) % 2 = (a % 2) &&& (b % 2) := by
  have := Nat.and_mod_two_pow (a := a) (b := b) (n := 1)
  simpa using this
theorem nat_and_div2 (a b : Nat) : (a &&& b) / 2 = a / 2 &&& b / 2 := by
  have h := Nat.shiftRight_and_distrib (a := a) (b := b) (i := 1)
  rw [Nat.shiftRight_eq_div_pow, Nat.shiftRight_eq_div_pow, Nat.shiftRight_eq_div_pow] at h
  exact h
theorem pcn_low : ∀ (i n : Nat), n < 2 ^ i → 0 < n → pcn (n &&& (n - 1)) i + 1 = pcn n i
  | 0, n, h, h0 => by
    have : n < 1 := h
    omega
  | i + 1, n, h, h0 => by
    have hp : n < 2 ^ i * 2 := by rw [← Nat.pow_succ]; exact h
    rw [pcn_shift, pcn_shift, nat_and_mod2, nat_and_div2]
    rcases Nat.mod_two_eq_zero_or_one n with e | e
    · rw [e, show (n - 1) / 2 = n / 2 - 1 by omega, Nat.zero_and, Nat.zero_add, Nat.zero_add]
      exact pcn_low i (n / 2) (by omega) (by omega)
    · rw [e, show (n - 1) / 2 = n / 2 by omega, show (n - 1) % 2 = 0 by omega, Nat.and_self, Nat.and_zero]
      omega
/-- the lowest one is taken away -/
theorem pc_low {n : Nat} (h : n < 65536) (h0 : 0 < n) : pc (n &&& (n - 1)) + 1 = pc n := pcn_low 16 n h h0
theorem pc_0 : pc 0 = 0 := by decide
theorem iZ_toInt {z : Int} (h1 : -1000 ≤ z) (h2 : z ≤ 1000) : (Int32.ofInt z).toInt = z := by
  rw [Int32.toInt_ofInt]
  show Int.bmod z 4294967296 = z
  simp only [Int.bmod]
  split <;> omega
theorem iZ_nI {k : Nat} (hk : k ≤ 1000) : nI k = Int32.ofInt (k : Int) := Int32.toInt_inj.mp (by rw [nI_toInt (by omega), iZ_toInt (by omega) (by omega)])
theorem iZ_m1 (z : Int) : Int32.ofInt z + Int32.ofInt (-1) = Int32.ofInt (z - 1) := by
  rw [← Int32.ofInt_add]
  rfl
/-! the product without carries -/
def prA (a b : Nat) : Nat → Nat
  | 0 => 0
  | j + 1 => prA a b j ^^^ ((a / 2 ^ j % 2) * (b * 2 ^ j))
def rdS (j x : Nat) : Nat := x ^^^ ((x / 2 ^ j % 2) * (285 * 2 ^ (j - 8)))
def rd (x : Nat) : Nat → Nat
  | 0 => x
  | t + 1 => rdS (14 - t) (rd x t)
theorem mul_bit_xor (x y c : Nat) : ((x ^^^ y) % 2) * c = (x % 2 * c) ^^^ (y % 2 * c) := by
  rw [nat_xor_mod2]
  rcases Nat.mod_two_eq_zero_or_one x with h | h <;> rcases Nat.mod_two_eq_zero_or_one y with h2 | h2 <;> rw [h, h2] <;> simp
theorem rdS_add (j x y : Nat) : rdS j (x ^^^ y) = rdS j x ^^^ rdS j y := by
  unfold rdS
  rw [nat_xor_div, mul_bit_xor, nat_xor4]
theorem rd_add (x y : Nat) : ∀ t, rd (x ^^^ y) t = rd x t ^^^ rd y t
  | 0 => rfl
  | t + 1 => by
    show rdS (14 - t) (rd (x ^^^ y) t) = rdS (14 - t) (rd x t) ^^^ rdS (14 - t) (rd y t)
    rw [rd_add x y t, rdS_add]
theorem rd_0 : ∀ t, rd 0 t = 0
  | 0 => rfl
  | t + 1 => by
    show rdS (14 - t) (rd 0 t) = 0
    rw [rd_0 t]
    simp [rdS]
theorem rd_b : ∀ b, b < 256 → ∀ i, i < 8 → rd (b * 2 ^ i) 7 = gsh b i := by decide +kernel
theorem rd_pr {b : Nat} (hb : b < 256) (a : Nat) : ∀ i, i ≤ 8 → rd (prA a b i) 7 = gsu b a i
  | 0, _ => rd_0 7
  | i + 1, h => by
    show rd (prA a b i ^^^ (a / 2 ^ i % 2 * (b * 2 ^ i))) 7 = if a / 2 ^ i % 2 = 1 then gsu b a i ^^^ gsh b i else gsu b a i
    rw [rd_add, rd_pr hb a i (by omega)]
    rcases Nat.mod_two_eq_zero_or_one (a / 2 ^ i) with h2 | h2 <;> rw [h2]
    · rw [if_neg (by decide), Nat.zero_mul, rd_0, Nat.xor_zero]
    · rw [if_pos rfl, Nat.one_mul, rd_b b hb i (by omega)]
theorem pr_fm (a b : B8) : rd (prA a.toNat b.toNat 8) 7 = (fm a b).toNat := by rw [rd_pr b.isLt a.toNat 8 (Nat.le_refl 8), fm_comm, fm_nat]
theorem bit_mul_lt {x c n : Nat} (h : c < n) : x % 2 * c < n := by
  rcases Nat.mod_two_eq_zero_or_one x with e | e <;> rw [e]
  · omega
  · omega
theorem prA_lt {a b : Nat} (hb : b < 256) : ∀ i, i ≤ 8 → prA a b i < 2 ^ 15
  | 0, _ => by show (0 : Nat) < 2 ^ 15; decide
  | i + 1, h => by
    have h1 : (2 : Nat) ^ i ≤ 2 ^ 7 := Nat.pow_le_pow_right (by decide) (by omega)
    have h2 : b * 2 ^ i ≤ 255 * 2 ^ 7 := Nat.mul_le_mul (by omega) h1
    exact Nat.xor_lt_two_pow (prA_lt hb i (by omega)) (bit_mul_lt (by omega))
theorem rd_lt {x : Nat} (hx : x < 2 ^ 15) : ∀ t, t ≤ 7 → rd x t < 2 ^ 15
  | 0, _ => hx
  | t + 1, h => by
    have h1 : (2 : Nat) ^ (14 - t - 8) ≤ 2 ^ 6 := Nat.pow_le_pow_right (by decide) (by omega)
    exact Nat.xor_lt_two_pow (rd_lt hx t (by omega)) (bit_mul_lt (by omega))
/-! a packet by lines -/
theorem of_xor (a b : Nat) : BitVec.ofNat 8 (a ^^^ b) = BitVec.ofNat 8 a ^^^ BitVec.ofNat 8 b := by
  apply BitVec.eq_of_toNat_eq
  simp [Nat.xor_mod_two_pow]
theorem bI_of_xor {a b : Nat} (h : a ^^^ b < 256) : nI (a ^^^ b) = bI (BitVec.ofNat 8 a ^^^ BitVec.ofNat 8 b) := by rw [bI_of h, of_xor]
def nev (d : Nat → B8) (x : B8) : Nat → Nat → B8
  | 0 => d
  | w + 1 => fun j => nev d x w j ^^^ fm (fm (nev d x w j ^^^ nev d x w (j + 1)) (finv (BitVec.ofNat 8 j ^^^ BitVec.ofNat 8 (j + (w + 1))))) (x ^^^ BitVec.ofNat 8 j)
theorem nev_P (d : Nat → B8) : ∀ w j, IsP (w + 1) (fun x => nev d x w j)
  | 0, j => IsP_const (d j)
  | w + 1, j => by
    have h1 := IsP_mono (nev_P d w j) (Nat.le_succ (w + 1))
    have h2 := IsP_mulX (BitVec.ofNat 8 j) (IsP_smul (finv (BitVec.ofNat 8 j ^^^ BitVec.ofNat 8 (j + (w + 1)))) (IsP_add (nev_P d w j) (nev_P d w (j + 1))))
    have e : (fun x => nev d x (w + 1) j) = (fun x => nev d x w j ^^^ fm (fm (finv (BitVec.ofNat 8 j ^^^ BitVec.ofNat 8 (j + (w + 1)))) (nev d x w j ^^^ nev d x w (j + 1))) (x ^^^ BitVec.ofNat 8 j)) := by
      funext x
      show nev d x w j ^^^ fm (fm (nev d x w j ^^^ nev d x w (j + 1)) (finv (BitVec.ofNat 8 j ^^^ BitVec.ofNat 8 (j + (w + 1))))) (x ^^^ BitVec.ofNat 8 j) = _
      rw [fm_comm (nev d x w j ^^^ nev d x w (j + 1))]
    rw [e]
    exact IsP_add h1 h2
theorem nev_at (d : Nat → B8) : ∀ w j m, j ≤ m → m ≤ j + w → j + w < 256 → nev d (BitVec.ofNat 8 m) w j = d m
  | 0, j, m, h1, h2, h3 => by
    have : j = m := by omega
    subst this
    rfl
  | w + 1, j, m, h1, h2, h3 => by
    show nev d (BitVec.ofNat 8 m) w j ^^^ fm (fm (nev d (BitVec.ofNat 8 m) w j ^^^ nev d (BitVec.ofNat 8 m) w (j + 1)) (finv (BitVec.ofNat 8 j ^^^ BitVec.ofNat 8 (j + (w + 1))))) (BitVec.ofNat 8 m ^^^ BitVec.ofNat 8 j) = d m
    by_cases e1 : m = j
    · subst e1
      rw [x_s, fm_0, x_z]
      exact nev_at d w m m h1 (by omega) (by omega)
    · by_cases e2 : m = j + (w + 1)
      · subst e2
        rw [nev_at d w (j + 1) (j + (w + 1)) (by omega) (by omega) (by omega)]
        have hc : BitVec.ofNat 8 j ^^^ BitVec.ofNat 8 (j + (w + 1)) ≠ 0 := x_ne (fun z => by have := ofn_inj (k := 256) (by decide) j (j + (w + 1)) (by omega) (by omega) z; omega)
        rw [BitVec.xor_comm (BitVec.ofNat 8 (j + (w + 1))), fm_assoc, fm_comm (finv _), fm_inv hc, fm_1, ← BitVec.xor_assoc, x_s, z_x]
      · rw [nev_at d w j m h1 (by omega) (by omega), nev_at d w (j + 1) m (by omega) (by omega) (by omega), x_s, fm_0l, fm_0l, x_z]
theorem nev_lag {k : Nat} (hk : 1 ≤ k) (hk8 : k ≤ 8) (d : Nat → B8) (x : B8) : nev d x (k - 1) 0 = lag k (fun j => BitVec.ofNat 8 j) d x := by
  have hP : IsP k (fun x => nev d x (k - 1) 0) := by
    have := nev_P d (k - 1) 0
    rwa [show k - 1 + 1 = k by omega] at this
  exact (lag_re hP (ofn_inj (by omega)) (fun i hi => (nev_at d (k - 1) 0 i (by omega) (by omega) (by omega)).symm) x).symm
/-- what the row holds: the first j are a step further -/
def nevR (d : Nat → B8) (x : B8) (w j : Nat) : Nat → B8 := fun i => if i < j then nev d x (w + 1) i else nev d x w i
theorem nevR_s (d : Nat → B8) (x : B8) (w j : Nat) : ub (nevR d x w j) j (nev d x (w + 1) j) = nevR d x w (j + 1) := by
  funext i
  unfold ub nevR
  by_cases h : i = j
  · subst h
    rw [if_pos rfl, if_pos (Nat.lt_succ_self i)]
  · rw [if_neg h]
    by_cases h2 : i < j
    · rw [if_pos h2, if_pos (by omega)]
    · rw [if_neg h2, if_neg (by omega)]
theorem nevR_a (d : Nat → B8) (x : B8) (w j : Nat) : nevR d x w j j = nev d x w j := if_neg (Nat.lt_irrefl j)
theorem nevR_b (d : Nat → B8) (x : B8) (w j : Nat) : nevR d x w j (j + 1) = nev d x w (j + 1) := if_neg (by omega)
theorem nevR_0 (d : Nat → B8) (x : B8) (w : Nat) : nevR d x w 0 = nev d x w := by
  funext i
  exact if_neg (Nat.not_lt_zero i)
/-! the arrays of numbers -/
def nA (k pat sent rc rep kept : Nat) : Nat → Nat := fun i => if i = 0 then k else if i = 1 then pat else if i = 2 then sent else if i = 3 then rc else if i = 4 then rep else if i = 5 then kept else 0
def rA (los wai set bad gon : Nat → Nat) : Nat → Nat := fun i => if i % 5 = 0 then los (i / 5) else if i % 5 = 1 then wai (i / 5) else if i % 5 = 2 then set (i / 5) else if i % 5 = 3 then bad (i / 5) else gon (i / 5)
section NAS
variable (k pat sent rc rep kept y : Nat)
theorem unA_0 : un (nA k pat sent rc rep kept) 0 y = nA y pat sent rc rep kept := by
  funext i
  unfold un nA
  by_cases h : i = 0
  · simp [h]
  · simp [h]
theorem unA_1 : un (nA k pat sent rc rep kept) 1 y = nA k y sent rc rep kept := by
  funext i
  unfold un nA
  by_cases h : i = 1
  · simp [h]
  · simp [h]
theorem unA_2 : un (nA k pat sent rc rep kept) 2 y = nA k pat y rc rep kept := by
  funext i
  unfold un nA
  by_cases h : i = 2
  · simp [h]
  · simp [h]
theorem unA_3 : un (nA k pat sent rc rep kept) 3 y = nA k pat sent y rep kept := by
  funext i
  unfold un nA
  by_cases h : i = 3
  · simp [h]
  · simp [h]
theorem unA_4 : un (nA k pat sent rc rep kept) 4 y = nA k pat sent rc y kept := by
  funext i
  unfold un nA
  by_cases h : i = 4
  · simp [h]
  · simp [h]
theorem unA_5 : un (nA k pat sent rc rep kept) 5 y = nA k pat sent rc rep y := by
  funext i
  unfold un nA
  by_cases h : i = 5
  · simp [h]
  · simp [h]
end NAS
theorem nA_00 : (fun _ : Nat => 0) = nA 0 0 0 0 0 0 := by
  funext i
  simp [nA]
theorem rA_00 : (fun _ : Nat => 0) = rA (fun _ => 0) (fun _ => 0) (fun _ => 0) (fun _ => 0) (fun _ => 0) := by
  funext i
  simp [rA]
section RAS
variable (los wai set bad gon : Nat → Nat) (j y : Nat)
theorem rA_0 : rA los wai set bad gon (5 * j) = los j := by
  unfold rA
  rw [if_pos (by omega), show 5 * j / 5 = j by omega]
theorem rA_1 : rA los wai set bad gon (5 * j + 1) = wai j := by
  unfold rA
  rw [if_neg (by omega), if_pos (by omega), show (5 * j + 1) / 5 = j by omega]
theorem rA_2 : rA los wai set bad gon (5 * j + 2) = set j := by
  unfold rA
  rw [if_neg (by omega), if_neg (by omega), if_pos (by omega), show (5 * j + 2) / 5 = j by omega]
theorem rA_3 : rA los wai set bad gon (5 * j + 3) = bad j := by
  unfold rA
  rw [if_neg (by omega), if_neg (by omega), if_neg (by omega), if_pos (by omega), show (5 * j + 3) / 5 = j by omega]
theorem rA_4 : rA los wai set bad gon (5 * j + 4) = gon j := by
  unfold rA
  rw [if_neg (by omega), if_neg (by omega), if_neg (by omega), if_neg (by omega), show (5 * j + 4) / 5 = j by omega]
theorem unR_0 : un (rA los wai set bad gon) (5 * j) y = rA (un los j y) wai set bad gon := by
  funext i
  by_cases h : i = 5 * j
  · subst h
    rw [un_s, rA_0, un_s]
  · rw [un_n _ _ h]
    unfold rA
    by_cases h2 : i % 5 = 0
    · rw [if_pos h2, if_pos h2, un_n _ _ (by omega)]
    · rw [if_neg h2, if_neg h2]
theorem unR_1 : un (rA los wai set bad gon) (5 * j + 1) y = rA los (un wai j y) set bad gon := by
  funext i
  by_cases h : i = 5 * j + 1
  · subst h
    rw [un_s, rA_1, un_s]
  · rw [un_n _ _ h]
    unfold rA
    by_cases h2 : i % 5 = 1
    · simp only [if_neg (show ¬ i % 5 = 0 by omega), if_pos h2]
      rw [un_n _ _ (by omega)]
    · simp only [if_neg h2]
theorem unR_2 : un (rA los wai set bad gon) (5 * j + 2) y = rA los wai (un set j y) bad gon := by
  funext i
  by_cases h : i = 5 * j + 2
  · subst h
    rw [un_s, rA_2, un_s]
  · rw [un_n _ _ h]
    unfold rA
    by_cases h2 : i % 5 = 2
    · simp only [if_neg (show ¬ i % 5 = 0 by omega), if_neg (show ¬ i % 5 = 1 by omega), if_pos h2]
      rw [un_n _ _ (by omega)]
    · simp only [if_neg h2]
theorem unR_3 : un (rA los wai set bad gon) (5 * j + 3) y = rA los wai set (un bad j y) gon := by
  funext i
  by_cases h : i = 5 * j + 3
  · subst h
    rw [un_s, rA_3, un_s]
  · rw [un_n _ _ h]
    unfold rA
    by_cases h2 : i % 5 = 3
    · simp only [if_neg (show ¬ i % 5 = 0 by omega), if_neg (show ¬ i % 5 = 1 by omega), if_neg (show ¬ i % 5 = 2 by omega), if_pos h2]
      rw [un_n _ _ (by omega)]
    · simp only [if_neg h2]
theorem unR_4 : un (rA los wai set bad gon) (5 * j + 4) y = rA los wai set bad (un gon j y) := by
  funext i
  by_cases h : i = 5 * j + 4
  · subst h
    rw [un_s, rA_4, un_s]
  · rw [un_n _ _ h]
    unfold rA
    by_cases h2 : i % 5 = 4
    · simp only [if_neg (show ¬ i % 5 = 0 by omega), if_neg (show ¬ i % 5 = 1 by omega), if_neg (show ¬ i % 5 = 2 by omega), if_neg (show ¬ i % 5 = 3 by omega)]
      rw [un_n _ _ (by omega)]
    · by_cases g0 : i % 5 = 0
      · simp only [if_pos g0]
      · by_cases g1 : i % 5 = 1
        · simp only [if_neg g0, if_pos g1]
        · by_cases g2 : i % 5 = 2
          · simp only [if_neg g0, if_neg g1, if_pos g2]
          · simp only [if_neg g0, if_neg g1, if_neg g2, if_pos (show i % 5 = 3 by omega)]
end RAS
/-! sending, as the law does it -/
def gtf (g b : Nat) : Nat := if g = 0 ∧ b = 0 then 1 else 0
theorem gtf_eq {g b : Nat} (hg : g ≤ 1) (hb : b ≤ 1) : (b ||| g) ^^^ 1 = gtf g b := by
  rcases (show g = 0 ∨ g = 1 by omega) with rfl | rfl <;> rcases (show b = 0 ∨ b = 1 by omega) with rfl | rfl <;> rfl
theorem gtf_le (g b : Nat) : gtf g b ≤ 1 := by
  unfold gtf
  split <;> omega
theorem un_eq {f : Nat → Nat} {j y : Nat} (h : f j = y) : un f j y = f := by
  funext i
  by_cases e : i = j
  · subst e
    rw [un_s, h]
  · rw [un_n _ _ e]
theorem snd1_g (i sent : Nat) (los gon S : Nat → Nat) : un (snd1 i sent los gon S) i ((snd1 i sent los gon S i) ||| (gtf (gon i) (los i / 2 ^ (sent % 11) % 2) * 2 ^ (sent % 16))) = snd1 (i + 1) sent los gon S := by
  by_cases h : gon i = 0 ∧ los i / 2 ^ (sent % 11) % 2 = 0
  · rw [show gtf (gon i) (los i / 2 ^ (sent % 11) % 2) = 1 from if_pos h, Nat.one_mul]
    exact snd1_y h.1 h.2
  · rw [show gtf (gon i) (los i / 2 ^ (sent % 11) % 2) = 0 from if_neg h, Nat.zero_mul, Nat.or_zero, un_eq rfl]
    exact snd1_n h
/-! a round, as the law does it -/
def npf (nd : Nat → Nat) (j : Nat) : Nat → Nat := fun i => if i < j then nd i else 0
theorem npf_0 (nd : Nat → Nat) : npf nd 0 = fun _ => 0 := by
  funext i
  exact if_neg (Nat.not_lt_zero i)
theorem npf_s (nd : Nat → Nat) (j : Nat) : un (npf nd j) j (nd j) = npf nd (j + 1) := by
  funext i
  unfold un npf
  by_cases h : i = j
  · subst h
    rw [if_pos rfl, if_pos (Nat.lt_succ_self i)]
  · rw [if_neg h]
    by_cases h2 : i < j
    · rw [if_pos h2, if_pos (by omega)]
    · rw [if_neg h2, if_neg (by omega)]
theorem npf_at {nd : Nat → Nat} {i j : Nat} (h : i < j) : npf nd j i = nd i := if_pos h
def mxn (nd : Nat → Nat) : Nat → Nat
  | 0 => 0
  | j + 1 => if mxn nd j < nd j then nd j else mxn nd j
theorem mxn_iff (nd : Nat → Nat) (b : Nat) : ∀ j, mxn nd j ≤ b ↔ ∀ i, i < j → nd i ≤ b
  | 0 => ⟨fun _ i h => absurd h (Nat.not_lt_zero i), fun _ => Nat.zero_le b⟩
  | j + 1 => by
    have ih := mxn_iff nd b j
    unfold mxn
    constructor
    · intro h i hi
      by_cases e : i = j
      · subst e
        split at h <;> omega
      · exact ih.mp (by split at h <;> omega) i (by omega)
    · intro h
      have h1 := ih.mpr (fun i hi => h i (by omega))
      have h2 := h j (by omega)
      split <;> omega
def hmx (nd wai : Nat → Nat) (w : Nat) : Nat → Nat
  | 0 => 0
  | i + 1 => if wai i < w ∧ hmx nd wai w i < nd i then nd i else hmx nd wai w i
theorem hmx_iff (nd wai : Nat → Nat) (w b : Nat) : ∀ j, hmx nd wai w j ≤ b ↔ ∀ i, i < j → wai i < w → nd i ≤ b
  | 0 => ⟨fun _ i h => absurd h (Nat.not_lt_zero i), fun _ => Nat.zero_le b⟩
  | j + 1 => by
    have ih := hmx_iff nd wai w b j
    unfold hmx
    constructor
    · intro h i hi hw
      by_cases e : i = j
      · subst e
        split at h <;> omega
      · exact ih.mp (by split at h <;> omega) i (by omega) hw
    · intro h
      have h1 := ih.mpr (fun i hi hw => h i (by omega) hw)
      split
      · rename_i h3
        exact h j (by omega) h3.1
      · exact h1
theorem hrH_iff (nd wai : Nat → Nat) (wt hb b : Nat) : ∀ j, hrH nd wai wt hb j ≤ b ↔ hb ≤ b ∧ ∀ i, i < j → wai i = wt → nd i ≤ b
  | 0 => ⟨fun h => ⟨h, fun i h => absurd h (Nat.not_lt_zero i)⟩, fun h => h.1⟩
  | j + 1 => by
    have ih := hrH_iff nd wai wt hb b j
    unfold hrH
    constructor
    · intro h
      have h0 : hrH nd wai wt hb j ≤ b := by
        split at h
        · exact Nat.le_trans (Nat.le_max_left _ _) h
        · exact h
      refine ⟨(ih.mp h0).1, fun i hi hw => ?_⟩
      by_cases e : i = j
      · subst e
        have := (ih.mp h0).1
        split at h
        · exact Nat.le_trans (Nat.le_max_right _ _) h
        · omega
      · exact (ih.mp h0).2 i (by omega) hw
    · intro h
      have h1 := ih.mpr ⟨h.1, fun i hi hw => h.2 i (by omega) hw⟩
      split
      · rename_i h3
        exact Nat.max_le.mpr ⟨h1, h.2 j (by omega) h3.1⟩
      · exact h1
theorem rnH_iff (nd wai : Nat → Nat) (rc b : Nat) : ∀ w, rnH nd wai rc w ≤ b ↔ ∀ i, i < rc → wai i < w → nd i ≤ b
  | 0 => ⟨fun _ i _ h => absurd h (Nat.not_lt_zero _), fun _ => Nat.zero_le b⟩
  | w + 1 => by
    have ih := rnH_iff nd wai rc b w
    show hrH nd wai w (rnH nd wai rc w) rc ≤ b ↔ _
    rw [hrH_iff]
    constructor
    · intro h i hi hw
      by_cases e : wai i = w
      · exact h.2 i hi e
      · exact ih.mp h.1 i hi (by omega)
    · intro h
      exact ⟨ih.mpr (fun i hi hw => h i hi (by omega)), fun i hi hw => h i hi (by omega)⟩
theorem rnH_hmx (nd wai : Nat → Nat) (rc w : Nat) : rnH nd wai rc w = hmx nd wai w rc :=
  Nat.le_antisymm ((rnH_iff nd wai rc _ w).mpr ((hmx_iff nd wai w _ rc).mp (Nat.le_refl _))) ((hmx_iff nd wai w _ rc).mpr ((rnH_iff nd wai rc _ w).mp (Nat.le_refl _)))
theorem rnH_mxn {nd wai : Nat → Nat} {rc : Nat} (hw : ∀ r, r < rc → wai r ≤ 20) : rnH nd wai rc 21 = mxn nd rc :=
  Nat.le_antisymm ((rnH_iff nd wai rc _ 21).mpr (fun i hi _ => (mxn_iff nd _ rc).mp (Nat.le_refl _) i hi)) ((mxn_iff nd _ rc).mpr (fun i hi => (rnH_iff nd wai rc _ 21).mp (Nat.le_refl _) i hi (by have := hw i hi; omega)))
def cnt (p : Nat → Bool) : Nat → Nat
  | 0 => 0
  | j + 1 => cnt p j + (if p j = true then 1 else 0)
theorem cnt_y {p : Nat → Bool} {j : Nat} (h : p j = true) : cnt p (j + 1) = cnt p j + 1 := by
  show cnt p j + (if p j = true then 1 else 0) = _
  rw [if_pos h]
theorem cnt_n {p : Nat → Bool} {j : Nat} (h : p j = false) : cnt p (j + 1) = cnt p j := by
  show cnt p j + (if p j = true then 1 else 0) = _
  rw [h]
  rfl
theorem cnt_le (p : Nat → Bool) : ∀ j, cnt p j ≤ j
  | 0 => Nat.le_refl 0
  | j + 1 => by
    have := cnt_le p j
    show cnt p j + (if p j = true then 1 else 0) ≤ j + 1
    split <;> omega
theorem cnt_congr {p q : Nat → Bool} : ∀ j, (∀ i, i < j → p i = q i) → cnt p j = cnt q j
  | 0, _ => rfl
  | j + 1, h => by
    show cnt p j + (if p j = true then 1 else 0) = cnt q j + (if q j = true then 1 else 0)
    rw [cnt_congr j (fun i hi => h i (by omega)), h j (by omega)]
abbrev pR (nd wai : Nat → Nat) (rc : Nat) : Nat → Bool := fun j => decide (hmx nd wai (wai j) rc < nd j)
abbrev pK (nd wai : Nat → Nat) (rc : Nat) : Nat → Bool := fun j => decide (0 < nd j ∧ nd j ≤ hmx nd wai (wai j) rc)
theorem hrR_cnt (nd wai : Nat → Nat) (rc W : Nat) : ∀ i, cnt (fun j => decide (wai j < W + 1) && pR nd wai rc j) i = cnt (fun j => decide (wai j < W) && pR nd wai rc j) i + hrR nd wai W (rnH nd wai rc W) i
  | 0 => rfl
  | i + 1 => by
    have ih := hrR_cnt nd wai rc W i
    show cnt _ i + (if (decide (wai i < W + 1) && pR nd wai rc i) = true then 1 else 0) = cnt _ i + (if (decide (wai i < W) && pR nd wai rc i) = true then 1 else 0) + (if wai i = W ∧ 0 < nd i ∧ rnH nd wai rc W < nd i then hrR nd wai W (rnH nd wai rc W) i + 1 else hrR nd wai W (rnH nd wai rc W) i)
    rw [ih]
    rcases Nat.lt_trichotomy (wai i) W with h | h | h
    · rw [decide_eq_true h, decide_eq_true (show wai i < W + 1 by omega), if_neg (show ¬ (wai i = W ∧ _) from fun z => by omega)]
      omega
    · rw [decide_eq_false (show ¬ wai i < W by omega), decide_eq_true (show wai i < W + 1 by omega), rnH_hmx, ← h, Bool.true_and, Bool.false_and]
      by_cases h2 : hmx nd wai (wai i) rc < nd i
      · rw [if_pos (decide_eq_true h2), if_neg (by decide), if_pos ⟨rfl, by omega, h2⟩]
        omega
      · rw [if_neg (show ¬ (pR nd wai rc i = true) from fun z => h2 (of_decide_eq_true z)), if_neg (by decide), if_neg (show ¬ (wai i = wai i ∧ 0 < nd i ∧ hmx nd wai (wai i) rc < nd i) from fun z => h2 z.2.2)]
        omega
    · rw [decide_eq_false (show ¬ wai i < W by omega), decide_eq_false (show ¬ wai i < W + 1 by omega), if_neg (show ¬ (wai i = W ∧ _) from fun z => by omega), Bool.false_and, if_neg (by decide)]
      omega
theorem hrK_cnt (nd wai : Nat → Nat) (rc W : Nat) : ∀ i, cnt (fun j => decide (wai j < W + 1) && pK nd wai rc j) i = cnt (fun j => decide (wai j < W) && pK nd wai rc j) i + hrK nd wai W (rnH nd wai rc W) i
  | 0 => rfl
  | i + 1 => by
    have ih := hrK_cnt nd wai rc W i
    show cnt _ i + (if (decide (wai i < W + 1) && pK nd wai rc i) = true then 1 else 0) = cnt _ i + (if (decide (wai i < W) && pK nd wai rc i) = true then 1 else 0) + (if wai i = W ∧ 0 < nd i ∧ nd i ≤ rnH nd wai rc W then hrK nd wai W (rnH nd wai rc W) i + 1 else hrK nd wai W (rnH nd wai rc W) i)
    rw [ih]
    rcases Nat.lt_trichotomy (wai i) W with h | h | h
    · rw [decide_eq_true h, decide_eq_true (show wai i < W + 1 by omega), if_neg (show ¬ (wai i = W ∧ _) from fun z => by omega)]
      omega
    · rw [decide_eq_false (show ¬ wai i < W by omega), decide_eq_true (show wai i < W + 1 by omega), rnH_hmx, ← h, Bool.true_and, Bool.false_and]
      by_cases h2 : 0 < nd i ∧ nd i ≤ hmx nd wai (wai i) rc
      · rw [if_pos (decide_eq_true h2), if_neg (by decide), if_pos ⟨rfl, h2⟩]
        omega
      · rw [if_neg (show ¬ (pK nd wai rc i = true) from fun z => h2 (of_decide_eq_true z)), if_neg (by decide), if_neg (show ¬ (wai i = wai i ∧ 0 < nd i ∧ nd i ≤ hmx nd wai (wai i) rc) from fun z => h2 z.2)]
        omega
    · rw [decide_eq_false (show ¬ wai i < W by omega), decide_eq_false (show ¬ wai i < W + 1 by omega), if_neg (show ¬ (wai i = W ∧ _) from fun z => by omega), Bool.false_and, if_neg (by decide)]
      omega
theorem cnt_none {p : Nat → Bool} (h : ∀ i, p i = false) : ∀ j, cnt p j = 0
  | 0 => rfl
  | j + 1 => by rw [cnt_n (h j), cnt_none h j]
theorem rnR_w (nd wai : Nat → Nat) (rc : Nat) : ∀ W, rnR nd wai rc W = cnt (fun j => decide (wai j < W) && pR nd wai rc j) rc
  | 0 => (cnt_none (fun i => by rw [decide_eq_false (Nat.not_lt_zero _)]; rfl) rc).symm
  | W + 1 => by
    show rnR nd wai rc W + hrR nd wai W (rnH nd wai rc W) rc = _
    rw [hrR_cnt, rnR_w nd wai rc W]
theorem rnK_w (nd wai : Nat → Nat) (rc : Nat) : ∀ W, rnK nd wai rc W = cnt (fun j => decide (wai j < W) && pK nd wai rc j) rc
  | 0 => (cnt_none (fun i => by rw [decide_eq_false (Nat.not_lt_zero _)]; rfl) rc).symm
  | W + 1 => by
    show rnK nd wai rc W + hrK nd wai W (rnH nd wai rc W) rc = _
    rw [hrK_cnt, rnK_w nd wai rc W]
theorem rnR_cnt {nd wai : Nat → Nat} {rc : Nat} (hw : ∀ r, r < rc → wai r ≤ 20) : rnR nd wai rc 21 = cnt (pR nd wai rc) rc := by
  rw [rnR_w]
  exact cnt_congr rc (fun i hi => by rw [decide_eq_true (show wai i < 21 by have := hw i hi; omega), Bool.true_and])
theorem rnK_cnt {nd wai : Nat → Nat} {rc : Nat} (hw : ∀ r, r < rc → wai r ≤ 20) : rnK nd wai rc 21 = cnt (pK nd wai rc) rc := by
  rw [rnK_w]
  exact cnt_congr rc (fun i hi => by rw [decide_eq_true (show wai i < 21 by have := hw i hi; omega), Bool.true_and])
theorem bdB_u (i k : Nat) (S gon bad : Nat → Nat) : un (bdB i k S gon bad) i (bad i + 0) = bdB i k S gon bad := un_eq (bdB_at i k S gon bad)
theorem bdG_u (i k pat : Nat) (S gon bad : Nat → Nat) : un (bdG i k pat S gon bad) i (gon i) = bdG i k pat S gon bad := un_eq (bdG_at i k pat S gon bad)
theorem nd8_le {k : Nat} {S gon : Nat → Nat} (h : k ≤ 8) (r : Nat) : ndf k S gon r ≤ 8 := by
  unfold ndf
  split <;> omega
theorem mxn_le {nd : Nat → Nat} {b : Nat} (h : ∀ r, nd r ≤ b) (j : Nat) : mxn nd j ≤ b := (mxn_iff nd b j).mpr (fun i _ => h i)
theorem hmx_le {nd wai : Nat → Nat} {b : Nat} (h : ∀ r, nd r ≤ b) (w j : Nat) : hmx nd wai w j ≤ b := (hmx_iff nd wai w b j).mpr (fun i _ _ => h i)
abbrev wK (cI cQ : ClassId) (ad : Nat → Nat) (ck : Nat) (cp cv : Nat → B8) (ek : Nat) (em : Nat → Nat → B8) : va_W := [(ad 9, .inr (1, [.ref (ad 10), .ref (ad 11), .int (nI ck)])), (ad 10, .inl (cI, 8, .inl (bF cp))), (ad 11, .inl (cI, 8, .inl (bF cv))),
  (ad 12, .inr (0, [.ref (ad 13), .int (nI ek)])), (ad 13, .inl (cQ, 8, .inr (.inr (.inr (.inr (fun i => if i < 8 then some (ad (14 + i)) else none))))))] ++ eqR cI (fun i => ad (14 + i)) em
section JS
variable {D : va_G} {cl : List vw_C} {H : Heap} {A : Nat → Prop} {a b k w w' : va_W} {x : Nat × va_E}
theorem jP_of (h : va_P D cl w H) (hm : ∀ x ∈ w', x ∈ w) : va_P D cl w' H := fun k q hk => by
  obtain ⟨i, hi⟩ := List.getElem?_of_mem (hm q (List.mem_of_getElem? hk))
  exact h i q hi
theorem jP_l (h : va_P D cl (a ++ b) H) : va_P D cl a H := jP_of h (fun x hx => List.mem_append_left _ hx)
theorem jP_r (h : va_P D cl (a ++ b) H) : va_P D cl b H := jP_of h (fun x hx => List.mem_append_right _ hx)
theorem jP_t (h : va_P D cl (x :: a) H) : va_P D cl a H := jP_of h (fun y hy => List.mem_cons_of_mem _ hy)
theorem jD_l (h : va_D A (a ++ b)) : va_D A a := ⟨fun i j p q hi hj e => h.1 i j p q (by rw [List.getElem?_append_left (List.getElem?_eq_some_iff.mp hi).1]; exact hi) (by rw [List.getElem?_append_left (List.getElem?_eq_some_iff.mp hj).1]; exact hj) e, fun k q hk => h.2 k q (by rw [List.getElem?_append_left (List.getElem?_eq_some_iff.mp hk).1]; exact hk)⟩
theorem jD_r (h : va_D A (a ++ b)) : va_D A b := ⟨fun i j p q hi hj e => by
  have := h.1 (a.length + i) (a.length + j) p q (by rw [List.getElem?_append_right (by omega), Nat.add_sub_cancel_left]; exact hi) (by rw [List.getElem?_append_right (by omega), Nat.add_sub_cancel_left]; exact hj) e
  omega, fun k q hk => h.2 (a.length + k) q (by rw [List.getElem?_append_right (by omega), Nat.add_sub_cancel_left]; exact hk)⟩
theorem jD_t (h : va_D A (x :: a)) : va_D A a := jD_r (a := [x]) h
theorem jP_w (h : va_P D cl (a ++ b) H) : va_P D cl (b ++ a) H := jP_of h (fun x hx => (List.mem_append.mp hx).elim (fun h => List.mem_append_right _ h) (fun h => List.mem_append_left _ h))
theorem jD_w (h : va_D A (a ++ b)) : va_D A (b ++ a) := va_D.swap (a := []) h
theorem j_eq (x : Nat × va_E) (a k b : va_W) : (x :: a) ++ (k ++ b) = (x :: (a ++ k)) ++ b := by simp only [List.cons_append, List.append_assoc]
theorem jP_k (h : va_P D cl ((x :: a) ++ (k ++ b)) H) : va_P D cl ((x :: (a ++ k)) ++ b) H := by rw [← j_eq]; exact h
theorem jP_K (h : va_P D cl ((x :: (a ++ k)) ++ b) H) : va_P D cl ((x :: a) ++ (k ++ b)) H := by rw [j_eq]; exact h
theorem jD_k (h : va_D A ((x :: a) ++ (k ++ b))) : va_D A ((x :: (a ++ k)) ++ b) := by rw [← j_eq]; exact h
theorem jD_K (h : va_D A ((x :: (a ++ k)) ++ b)) : va_D A ((x :: a) ++ (k ++ b)) := by rw [j_eq]; exact h
theorem j_range (w : va_W) : (List.range w.length).map (fun i => w[i]?) = w.map some := by
  apply List.ext_getElem?
  intro i
  rw [List.getElem?_map, List.getElem?_map]
  by_cases h : i < w.length
  · rw [List.getElem?_range h, List.getElem?_eq_getElem h]
    simp [h]
  · rw [List.getElem?_eq_none (by rw [List.length_range]; omega), List.getElem?_eq_none (by omega)]
    rfl
end JS
section JC
variable {p : Program} {l : Launch} {e : Env} {R : Room} {s : State} {m : MethodId} {args : Array Value} {below : List Frame} {meth : Method} {c : Code} {H : Heap} {locs : List Loc} {cells slots : Nat} {Q : State → Prop}
variable {cc : ByteArray} {pc : Nat} {ls : Array Slot} {rest st0 : List Value} {D : va_G} {cl : List vw_C} {A0 : Nat → Prop} {a : Array Value} {H0 : Heap} {mc ms : Nat}
/-- a call whose cells stand first in the world -/
theorem j_ci {S : Type} {post : Int32 → S → Prop} {wc pl : va_W} {w1 : S → va_W} (hr : va_Run p l e R s m args below meth c H locs cells slots mc ms (F0 m pc ls st0) rest (va_Qi post (fun u t => va_P D cl (w1 u) t.heap ∧ va_D (va_A wc H.size) (w1 u)) (va_A wc H.size) a) (va_A wc H.size))
    (hP : va_P D cl (wc ++ pl) H) (hD : va_D A0 (wc ++ pl)) (hS : va_S A0 H0 H locs) (hA : ∀ q, H0.size ≤ q → A0 q)
    (kk : ∀ (r : Int32) (u : S) (H1 : Heap) (locs1 : List Loc), post r u → va_P D cl (w1 u ++ pl) H1 → va_D A0 (w1 u ++ pl) → va_S A0 H0 H1 locs1 → W p l e R s m args below meth c H1 locs1 (cells + mc) (slots + ms) Q (F0 m (pc + 3) ls (.int r :: rest))) : W p l e R s m args below meth c H locs cells slots Q (F0 m pc ls st0) := by
  have hF : ∀ q, va_A wc H.size q → A0 q := fun q h => by
    rcases h with ⟨k, e9, h⟩ | h
    · exact hD.2 k (q, e9) (by rw [List.getElem?_append_left (List.getElem?_eq_some_iff.mp h).1]; exact h)
    · exact hA q (Nat.le_trans hS.1 h)
  refine va_calli hr hS (fun q _ h => hF q h) hF (fun r u t H1 locs1 ht hvm hw hB hz1 hk1 hS1 => ?_)
  obtain ⟨hP1, hD1⟩ := hB
  rw [ht] at hP1
  obtain ⟨hP2, hD2⟩ := va_joinQ (X := wc) (cx := wc) (wr := []) hP hD (List.range wc.length) [] (j_range wc) rfl rfl (fun i h => by cases h) hk1 hF hP1 hD1
  exact kk r u H1 locs1 hw hP2 hD2 hS1
end JC
