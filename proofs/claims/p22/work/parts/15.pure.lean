/-! the sender's numbers, without the machine -/
theorem pcn_le (s : Nat) : ∀ i, pcn s i ≤ i
  | 0 => Nat.le_refl _
  | i + 1 => by
    have := pcn_le s i
    show pcn s i + s / 2 ^ i % 2 ≤ i + 1
    omega
theorem pc_le (s : Nat) : pc s ≤ 16 := pcn_le s 16
theorem and_bit (n j : Nat) : n &&& 2 ^ j = 0 ↔ n / 2 ^ j % 2 = 0 := by
  have h1 : n.testBit j = decide (n / 2 ^ j % 2 = 1) := Nat.testBit_eq_decide_div_mod_eq
  constructor
  · intro h
    have h2 : (n &&& 2 ^ j).testBit j = false := by rw [h]; exact Nat.zero_testBit j
    rw [Nat.testBit_and, Nat.testBit_two_pow_self, Bool.and_true, h1] at h2
    have h3 := of_decide_eq_false h2
    omega
  · intro h
    apply Nat.eq_of_testBit_eq
    intro i
    rw [Nat.testBit_and, Nat.zero_testBit]
    by_cases e : i = j
    · subst e
      rw [h1, decide_eq_false (by omega)]
      rfl
    · rw [Nat.testBit_two_pow_of_ne (fun q => e q.symm), Bool.and_false]
theorem or_bit (n t i : Nat) : n / 2 ^ i % 2 ≤ (n ||| t) / 2 ^ i % 2 := by
  have h1 : n.testBit i = decide (n / 2 ^ i % 2 = 1) := Nat.testBit_eq_decide_div_mod_eq
  have h2 : (n ||| t).testBit i = decide ((n ||| t) / 2 ^ i % 2 = 1) := Nat.testBit_eq_decide_div_mod_eq
  rw [Nat.testBit_or, h1] at h2
  rcases Nat.mod_two_eq_zero_or_one (n / 2 ^ i) with h | h
  · omega
  · rw [h] at h2
    have h3 : decide ((n ||| t) / 2 ^ i % 2 = 1) = true := by rw [← h2]; rfl
    have h4 := of_decide_eq_true h3
    omega
theorem pcn_or (n t : Nat) : ∀ i, pcn n i ≤ pcn (n ||| t) i
  | 0 => Nat.le_refl _
  | i + 1 => Nat.add_le_add (pcn_or n t i) (or_bit n t i)
theorem pc_or (n t : Nat) : pc n ≤ pc (n ||| t) := pcn_or n t 16
/-- one packet is sent to the receivers below i -/
def snd1 (i sent : Nat) (los gon S : Nat → Nat) : Nat → Nat := fun r => if r < i ∧ gon r = 0 ∧ los r / 2 ^ (sent % 11) % 2 = 0 then S r ||| 2 ^ (sent % 16) else S r
theorem snd1_0 (sent : Nat) (los gon S : Nat → Nat) : snd1 0 sent los gon S = S := by
  funext r
  simp [snd1]
theorem snd1_at (i sent : Nat) (los gon S : Nat → Nat) : snd1 i sent los gon S i = S i := by simp [snd1]
theorem snd1_y {i sent : Nat} {los gon S : Nat → Nat} (h1 : gon i = 0) (h2 : los i / 2 ^ (sent % 11) % 2 = 0) : un (snd1 i sent los gon S) i ((snd1 i sent los gon S i) ||| 2 ^ (sent % 16)) = snd1 (i + 1) sent los gon S := by
  funext r
  unfold un
  by_cases h : r = i
  · subst h
    rw [if_pos rfl, snd1_at]
    unfold snd1
    rw [if_pos ⟨by omega, h1, h2⟩]
  · rw [if_neg h]
    unfold snd1
    by_cases h3 : r < i ∧ gon r = 0 ∧ los r / 2 ^ (sent % 11) % 2 = 0
    · rw [if_pos h3, if_pos ⟨by omega, h3.2⟩]
    · rw [if_neg h3, if_neg (fun z => h3 ⟨by omega, z.2⟩)]
theorem snd1_n {i sent : Nat} {los gon S : Nat → Nat} (h : ¬ (gon i = 0 ∧ los i / 2 ^ (sent % 11) % 2 = 0)) : snd1 i sent los gon S = snd1 (i + 1) sent los gon S := by
  funext r
  unfold snd1
  by_cases h3 : r < i ∧ gon r = 0 ∧ los r / 2 ^ (sent % 11) % 2 = 0
  · rw [if_pos h3, if_pos ⟨by omega, h3.2⟩]
  · rw [if_neg h3, if_neg (fun z => ?_)]
    by_cases e : r = i
    · subst e
      exact h z.2
    · exact h3 ⟨by omega, z.2⟩
theorem snd1_lt {i sent : Nat} {los gon S : Nat → Nat} (h : ∀ r, r < 6 → S r < 65536) : ∀ r, r < 6 → snd1 i sent los gon S r < 65536 := by
  intro r hr
  unfold snd1
  split
  · exact Nat.or_lt_two_pow (n := 16) (h r hr) (Nat.pow_lt_pow_right (by decide) (Nat.mod_lt _ (by decide)))
  · exact h r hr
theorem snd1_pc (i sent : Nat) (los gon S : Nat → Nat) (r : Nat) : pc (S r) ≤ pc (snd1 i sent los gon S r) := by
  unfold snd1
  split
  · exact pc_or _ _
  · exact Nat.le_refl _
/-- n packets are sent -/
def sndM (rc sent : Nat) (los gon S : Nat → Nat) : Nat → Nat → Nat
  | 0 => S
  | n + 1 => snd1 rc (sent + n) los gon (sndM rc sent los gon S n)
theorem sndM_lt {rc sent : Nat} {los gon S : Nat → Nat} (h : ∀ r, r < 6 → S r < 65536) : ∀ n r, r < 6 → sndM rc sent los gon S n r < 65536
  | 0 => h
  | n + 1 => snd1_lt (sndM_lt h n)
theorem sndM_pc (rc sent : Nat) (los gon S : Nat → Nat) (r : Nat) : ∀ n, pc (S r) ≤ pc (sndM rc sent los gon S n r)
  | 0 => Nat.le_refl _
  | n + 1 => Nat.le_trans (sndM_pc rc sent los gon S r n) (snd1_pc _ _ _ _ _ _)
/-- how many of the first i are live and complete -/
def ccn (k : Nat) (S gon : Nat → Nat) : Nat → Nat
  | 0 => 0
  | i + 1 => if gon i = 0 ∧ k - pc (S i) = 0 then ccn k S gon i + 1 else ccn k S gon i
theorem ccn_le (k : Nat) (S gon : Nat → Nat) : ∀ i, ccn k S gon i ≤ i
  | 0 => Nat.le_refl _
  | i + 1 => by
    have := ccn_le k S gon i
    unfold ccn
    split <;> omega
/-- what a live receiver needs -/
def ndf (k : Nat) (S gon : Nat → Nat) : Nat → Nat := fun r => if gon r = 0 then k - pc (S r) else 0
/-- reports at one wait, hb heard before; i receivers are asked -/
def hrR (nd wai : Nat → Nat) (wt hb : Nat) : Nat → Nat
  | 0 => 0
  | i + 1 => if wai i = wt ∧ 0 < nd i ∧ hb < nd i then hrR nd wai wt hb i + 1 else hrR nd wai wt hb i
def hrK (nd wai : Nat → Nat) (wt hb : Nat) : Nat → Nat
  | 0 => 0
  | i + 1 => if wai i = wt ∧ 0 < nd i ∧ nd i ≤ hb then hrK nd wai wt hb i + 1 else hrK nd wai wt hb i
def hrH (nd wai : Nat → Nat) (wt hb : Nat) : Nat → Nat
  | 0 => hb
  | i + 1 => if wai i = wt ∧ 0 < nd i ∧ hb < nd i then max (hrH nd wai wt hb i) (nd i) else hrH nd wai wt hb i
theorem hrH_le {nd wai : Nat → Nat} {wt hb b : Nat} (h : hb ≤ b) : ∀ i, (∀ r, r < i → nd r ≤ b) → hrH nd wai wt hb i ≤ b
  | 0, _ => h
  | i + 1, hn => by
    have h1 := hrH_le (nd := nd) (wai := wai) (wt := wt) h i (fun r hr => hn r (by omega))
    have h2 := hn i (by omega)
    unfold hrH
    split
    · exact Nat.max_le.mpr ⟨h1, h2⟩
    · exact h1
theorem hrH_ge (nd wai : Nat → Nat) (wt hb : Nat) : ∀ i, hb ≤ hrH nd wai wt hb i
  | 0 => Nat.le_refl _
  | i + 1 => by
    have h1 := hrH_ge nd wai wt hb i
    unfold hrH
    split
    · exact Nat.le_trans h1 (Nat.le_max_left _ _)
    · exact h1
/-- over the waits below w -/
def rnH (nd wai : Nat → Nat) (rc : Nat) : Nat → Nat
  | 0 => 0
  | w + 1 => hrH nd wai w (rnH nd wai rc w) rc
def rnR (nd wai : Nat → Nat) (rc : Nat) : Nat → Nat
  | 0 => 0
  | w + 1 => rnR nd wai rc w + hrR nd wai w (rnH nd wai rc w) rc
def rnK (nd wai : Nat → Nat) (rc : Nat) : Nat → Nat
  | 0 => 0
  | w + 1 => rnK nd wai rc w + hrK nd wai w (rnH nd wai rc w) rc
theorem rnH_le {nd wai : Nat → Nat} {rc b : Nat} (hn : ∀ r, r < rc → nd r ≤ b) : ∀ w, rnH nd wai rc w ≤ b
  | 0 => Nat.zero_le _
  | w + 1 => hrH_le (rnH_le hn w) rc hn
/-- bad rounds: who is live and lacks some has one more; i receivers are asked -/
def bdB (i k : Nat) (S gon bad : Nat → Nat) : Nat → Nat := fun r => if r < i ∧ gon r = 0 ∧ 0 < k - pc (S r) then bad r + 1 else bad r
def bdG (i k pat : Nat) (S gon bad : Nat → Nat) : Nat → Nat := fun r => if r < i ∧ gon r = 0 ∧ 0 < k - pc (S r) then (if pat ≤ bad r + 1 then 1 else 0) else gon r
theorem bdB_0 (k : Nat) (S gon bad : Nat → Nat) : bdB 0 k S gon bad = bad := by
  funext r
  simp [bdB]
theorem bdG_0 (k pat : Nat) (S gon bad : Nat → Nat) : bdG 0 k pat S gon bad = gon := by
  funext r
  simp [bdG]
theorem bdB_at (i k : Nat) (S gon bad : Nat → Nat) : bdB i k S gon bad i = bad i := by simp [bdB]
theorem bdG_at (i k pat : Nat) (S gon bad : Nat → Nat) : bdG i k pat S gon bad i = gon i := by simp [bdG]
theorem bdB_y {i k : Nat} {S gon bad : Nat → Nat} (h1 : gon i = 0) (h2 : 0 < k - pc (S i)) : un (bdB i k S gon bad) i (bad i + 1) = bdB (i + 1) k S gon bad := by
  funext r
  unfold un
  by_cases h : r = i
  · subst h
    rw [if_pos rfl]
    unfold bdB
    rw [if_pos ⟨by omega, h1, h2⟩]
  · rw [if_neg h]
    unfold bdB
    by_cases h3 : r < i ∧ gon r = 0 ∧ 0 < k - pc (S r)
    · rw [if_pos h3, if_pos ⟨by omega, h3.2⟩]
    · rw [if_neg h3, if_neg (fun z => h3 ⟨by omega, z.2⟩)]
theorem bdB_n {i k : Nat} {S gon bad : Nat → Nat} (h : ¬ (gon i = 0 ∧ 0 < k - pc (S i))) : bdB i k S gon bad = bdB (i + 1) k S gon bad := by
  funext r
  unfold bdB
  by_cases h3 : r < i ∧ gon r = 0 ∧ 0 < k - pc (S r)
  · rw [if_pos h3, if_pos ⟨by omega, h3.2⟩]
  · rw [if_neg h3, if_neg (fun z => ?_)]
    by_cases e : r = i
    · subst e
      exact h z.2
    · exact h3 ⟨by omega, z.2⟩
theorem bdG_y {i k pat : Nat} {S gon bad : Nat → Nat} (h1 : gon i = 0) (h2 : 0 < k - pc (S i)) : un (bdG i k pat S gon bad) i (if pat ≤ bad i + 1 then 1 else 0) = bdG (i + 1) k pat S gon bad := by
  funext r
  unfold un
  by_cases h : r = i
  · subst h
    rw [if_pos rfl]
    unfold bdG
    rw [if_pos (show r < r + 1 ∧ gon r = 0 ∧ 0 < k - pc (S r) from ⟨by omega, h1, h2⟩)]
  · rw [if_neg h]
    unfold bdG
    by_cases h3 : r < i ∧ gon r = 0 ∧ 0 < k - pc (S r)
    · rw [if_pos h3, if_pos (show r < i + 1 ∧ gon r = 0 ∧ 0 < k - pc (S r) from ⟨by omega, h3.2⟩)]
    · rw [if_neg h3, if_neg (fun z => h3 ⟨by omega, z.2⟩)]
theorem bdG_n {i k pat : Nat} {S gon bad : Nat → Nat} (h : ¬ (gon i = 0 ∧ 0 < k - pc (S i))) : bdG i k pat S gon bad = bdG (i + 1) k pat S gon bad := by
  funext r
  unfold bdG
  by_cases h3 : r < i ∧ gon r = 0 ∧ 0 < k - pc (S r)
  · rw [if_pos h3, if_pos (show r < i + 1 ∧ gon r = 0 ∧ 0 < k - pc (S r) from ⟨by omega, h3.2⟩)]
  · rw [if_neg h3, if_neg (fun z => ?_)]
    by_cases e : r = i
    · subst e
      exact h z.2
    · exact h3 ⟨by omega, z.2⟩
theorem bdB_le {i k b : Nat} {S gon bad : Nat → Nat} (h : ∀ r, r < 6 → bad r ≤ b) : ∀ r, r < 6 → bdB i k S gon bad r ≤ b + 1 := by
  intro r hr
  have := h r hr
  unfold bdB
  split <;> omega
theorem bdG_le {i k pat : Nat} {S gon bad : Nat → Nat} (h : ∀ r, r < 6 → gon r ≤ 1) : ∀ r, r < 6 → bdG i k pat S gon bad r ≤ 1 := by
  intro r hr
  have := h r hr
  unfold bdG
  split
  · split <;> omega
  · exact this
/-- choosing packets to rebuild from: in the order num 0, num 1 .. -/
def chC (k s : Nat) (num : Nat → Nat) : Nat → Nat
  | 0 => 0
  | i + 1 => if s / 2 ^ num i % 2 = 1 ∧ chC k s num i < k then chC k s num i + 1 else chC k s num i
def chP (k s : Nat) (num : Nat → Nat) (cp : Nat → B8) : Nat → Nat → B8
  | 0 => cp
  | i + 1 => if s / 2 ^ num i % 2 = 1 ∧ chC k s num i < k then ub (chP k s num cp i) (chC k s num i) (BitVec.ofNat 8 (num i)) else chP k s num cp i
def chV (k s : Nat) (num : Nat → Nat) (f : B8 → B8) (cv : Nat → B8) : Nat → Nat → B8
  | 0 => cv
  | i + 1 => if s / 2 ^ num i % 2 = 1 ∧ chC k s num i < k then ub (chV k s num f cv i) (chC k s num i) (f (BitVec.ofNat 8 (num i))) else chV k s num f cv i
theorem chC_le (k s : Nat) (num : Nat → Nat) : ∀ i, chC k s num i ≤ k
  | 0 => Nat.zero_le _
  | i + 1 => by
    have := chC_le k s num i
    unfold chC
    split <;> omega
/-- how many of the numbers num 0 .. are there -/
def chN (s : Nat) (num : Nat → Nat) : Nat → Nat
  | 0 => 0
  | i + 1 => chN s num i + s / 2 ^ num i % 2
theorem chC_min (k s : Nat) (num : Nat → Nat) : ∀ i, chC k s num i = min k (chN s num i)
  | 0 => by simp [chC, chN]
  | i + 1 => by
    have ih := chC_min k s num i
    have h2 := Nat.mod_two_eq_zero_or_one (s / 2 ^ num i)
    unfold chC chN
    split <;> omega
theorem chN_up (s : Nat) : ∀ i, chN s (fun i => i) i = pcn s i
  | 0 => rfl
  | i + 1 => by
    show chN s (fun i => i) i + s / 2 ^ i % 2 = pcn s i + s / 2 ^ i % 2
    rw [chN_up s i]
theorem chN_dn (s : Nat) : chN s (fun i => 15 - i) 16 = pcn s 16 := by
  have key : ∀ f : Nat → Nat, 0 + f 15 + f 14 + f 13 + f 12 + f 11 + f 10 + f 9 + f 8 + f 7 + f 6 + f 5 + f 4 + f 3 + f 2 + f 1 + f 0 = 0 + f 0 + f 1 + f 2 + f 3 + f 4 + f 5 + f 6 + f 7 + f 8 + f 9 + f 10 + f 11 + f 12 + f 13 + f 14 + f 15 := by
    intro f
    omega
  exact key (fun i => s / 2 ^ i % 2)
/-- a chosen point is one of the numbers seen, and those chosen are apart -/
theorem ch_src (k s : Nat) (num : Nat → Nat) (f : B8 → B8) (cp cv : Nat → B8) : ∀ i a, a < chC k s num i → ∃ j, j < i ∧ chP k s num cp i a = BitVec.ofNat 8 (num j) ∧ chV k s num f cv i a = f (BitVec.ofNat 8 (num j)) ∧ chC k s num j = a ∧ chC k s num (j + 1) = a + 1
  | 0, a, h => absurd h (Nat.not_lt_zero _)
  | i + 1, a, h => by
    by_cases hc : s / 2 ^ num i % 2 = 1 ∧ chC k s num i < k
    · have e1 : chC k s num (i + 1) = chC k s num i + 1 := if_pos hc
      have e2 : chP k s num cp (i + 1) = ub (chP k s num cp i) (chC k s num i) (BitVec.ofNat 8 (num i)) := if_pos hc
      have e3 : chV k s num f cv (i + 1) = ub (chV k s num f cv i) (chC k s num i) (f (BitVec.ofNat 8 (num i))) := if_pos hc
      rw [e1] at h
      by_cases e : a = chC k s num i
      · subst e
        exact ⟨i, by omega, by rw [e2, ub_s], by rw [e3, ub_s], rfl, e1⟩
      · obtain ⟨j, h1, h2, h3, h4, h5⟩ := ch_src k s num f cp cv i a (by omega)
        exact ⟨j, by omega, by rw [e2, ub_n _ _ e, h2], by rw [e3, ub_n _ _ e, h3], h4, h5⟩
    · have e1 : chC k s num (i + 1) = chC k s num i := if_neg hc
      have e2 : chP k s num cp (i + 1) = chP k s num cp i := if_neg hc
      have e3 : chV k s num f cv (i + 1) = chV k s num f cv i := if_neg hc
      rw [e1] at h
      obtain ⟨j, h1, h2, h3, h4, h5⟩ := ch_src k s num f cp cv i a h
      exact ⟨j, by omega, by rw [e2, h2], by rw [e3, h3], h4, h5⟩
theorem ch_apart {k s : Nat} {num : Nat → Nat} (hn : ∀ i j, i < 16 → j < 16 → num i = num j → i = j) (hl : ∀ i, i < 16 → num i < 256) (cp : Nat → B8) : ∀ a b, a < chC k s num 16 → b < chC k s num 16 → chP k s num cp 16 a = chP k s num cp 16 b → a = b := by
  intro a b ha hb h
  obtain ⟨i, h1, h2, -, h4, -⟩ := ch_src k s num (fun x => x) cp cp 16 a ha
  obtain ⟨j, g1, g2, -, g4, -⟩ := ch_src k s num (fun x => x) cp cp 16 b hb
  rw [h2, g2] at h
  have h5 := congrArg BitVec.toNat h
  rw [BitVec.toNat_ofNat, BitVec.toNat_ofNat, Nat.mod_eq_of_lt (by have := hl i h1; omega), Nat.mod_eq_of_lt (by have := hl j g1; omega)] at h5
  have := hn i j h1 g1 h5
  subst this
  omega
theorem ch_val {k s : Nat} {num : Nat → Nat} (f : B8 → B8) (cp cv : Nat → B8) : ∀ a, a < chC k s num 16 → chV k s num f cv 16 a = f (chP k s num cp 16 a) := by
  intro a ha
  obtain ⟨i, -, h2, h3, -⟩ := ch_src k s num f cp cv 16 a ha
  rw [h2, h3]
