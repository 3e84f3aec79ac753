/-! sums, polynomials -/
def fs (n : Nat) (g : Nat → B8) : B8 := match n with
  | 0 => 0
  | n + 1 => fs n g ^^^ g n
theorem fs_s (n : Nat) (g : Nat → B8) : fs (n + 1) g = fs n g ^^^ g n := rfl
theorem fs_congr {n : Nat} {g h : Nat → B8} (e : ∀ i, i < n → g i = h i) : fs n g = fs n h := by
  induction n with
  | zero => rfl
  | succ n ih => rw [fs_s, fs_s, ih (fun i hi => e i (by omega)), e n (by omega)]
theorem fs_add (n : Nat) (g h : Nat → B8) : fs n (fun i => g i ^^^ h i) = fs n g ^^^ fs n h := by
  induction n with
  | zero => exact (x_s 0).symm
  | succ n ih => rw [fs_s, fs_s, fs_s, ih, x4]
theorem fs_mul (n : Nat) (c : B8) (g : Nat → B8) : fs n (fun i => fm c (g i)) = fm c (fs n g) := by
  induction n with
  | zero => exact (fm_0 c).symm
  | succ n ih => rw [fs_s, fs_s, ih, fm_addR]
theorem fs_0 {n : Nat} {g : Nat → B8} (e : ∀ i, i < n → g i = 0) : fs n g = 0 := by
  induction n with
  | zero => rfl
  | succ n ih => rw [fs_s, ih (fun i hi => e i (by omega)), e n (by omega)]; rfl
theorem fs_one {n m : Nat} {g : Nat → B8} (hm : m < n) (e : ∀ i, i < n → i ≠ m → g i = 0) : fs n g = g m := by
  induction n with
  | zero => omega
  | succ n ih =>
    rw [fs_s]
    by_cases h : m = n
    · subst h
      rw [fs_0 (fun i hi => e i (by omega) (by omega)), z_x]
    · rw [ih (by omega) (fun i hi h2 => e i (by omega) h2), e n (by omega) (fun q => h q.symm), x_z]
theorem fs_swap (n m : Nat) (g : Nat → Nat → B8) : fs n (fun i => fs m (fun j => g i j)) = fs m (fun j => fs n (fun i => g i j)) := by
  induction n with
  | zero => exact (fs_0 (fun i _ => rfl)).symm
  | succ n ih =>
    rw [fs_s, ih, ← fs_add]
    rfl
theorem fs_shift (n : Nat) (g : Nat → B8) : fs (n + 1) g = g 0 ^^^ fs n (fun i => g (i + 1)) := by
  induction n with
  | zero => rw [fs_s]; exact BitVec.xor_comm _ _
  | succ n ih => rw [fs_s, ih, fs_s, BitVec.xor_assoc]
def fpw (x : B8) : Nat → B8
  | 0 => 1
  | n + 1 => fm (fpw x n) x
def sh1 (g : Nat → B8) : Nat → B8
  | 0 => 0
  | j + 1 => g j
def pe (n : Nat) (a : Nat → B8) (x : B8) : B8 := fs n (fun j => fm (a j) (fpw x j))
def IsP (n : Nat) (g : B8 → B8) : Prop := ∃ a : Nat → B8, ∀ x, g x = pe n a x
theorem IsP_mono {n m : Nat} {g : B8 → B8} (h : IsP n g) (hm : n ≤ m) : IsP m g := by
  obtain ⟨a, ha⟩ := h
  refine ⟨fun j => if j < n then a j else 0, fun x => ?_⟩
  rw [ha x]
  clear ha
  induction m with
  | zero =>
    obtain rfl : n = 0 := by omega
    rfl
  | succ m ih =>
    by_cases e : n = m + 1
    · subst e
      unfold pe
      exact fs_congr (fun i hi => by show fm (a i) _ = fm (if i < m + 1 then a i else 0) _; rw [if_pos hi])
    · rw [ih (by omega)]
      show pe m _ x = pe m _ x ^^^ fm (if m < n then a m else 0) (fpw x m)
      rw [if_neg (by omega), fm_0l, x_z]
theorem IsP_zero (n : Nat) : IsP n (fun _ => 0) := ⟨fun _ => 0, fun x => (fs_0 (fun i _ => fm_0l _)).symm⟩
theorem IsP_const (c : B8) : IsP 1 (fun _ => c) := ⟨fun _ => c, fun x => by
  show c = 0 ^^^ fm c 1
  rw [fm_1, z_x]⟩
theorem IsP_add {n : Nat} {g h : B8 → B8} (hg : IsP n g) (hh : IsP n h) : IsP n (fun x => g x ^^^ h x) := by
  obtain ⟨a, ha⟩ := hg
  obtain ⟨b, hb⟩ := hh
  refine ⟨fun j => a j ^^^ b j, fun x => ?_⟩
  show g x ^^^ h x = _
  rw [ha, hb]
  unfold pe
  rw [← fs_add]
  exact fs_congr (fun i _ => (fm_addL _ _ _).symm)
theorem IsP_smul {n : Nat} {g : B8 → B8} (c : B8) (hg : IsP n g) : IsP n (fun x => fm c (g x)) := by
  obtain ⟨a, ha⟩ := hg
  refine ⟨fun j => fm c (a j), fun x => ?_⟩
  show fm c (g x) = _
  rw [ha]
  unfold pe
  rw [← fs_mul]
  exact fs_congr (fun i _ => (fm_assoc _ _ _).symm)
theorem IsP_sum {n m : Nat} {g : Nat → B8 → B8} (h : ∀ i, i < m → IsP n (g i)) : IsP n (fun x => fs m (fun i => g i x)) := by
  induction m with
  | zero => exact IsP_zero n
  | succ m ih => exact IsP_add (ih (fun i hi => h i (by omega))) (h m (by omega))
theorem IsP_mulX {n : Nat} {g : B8 → B8} (r : B8) (hg : IsP n g) : IsP (n + 1) (fun x => fm (g x) (x ^^^ r)) := by
  obtain ⟨a, ha⟩ := hg
  have h1 : IsP (n + 1) (fun x => fm (g x) x) := by
    refine ⟨sh1 a, fun x => ?_⟩
    show fm (g x) x = _
    rw [ha]
    unfold pe
    rw [fs_shift]
    show _ = fm 0 (fpw x 0) ^^^ _
    rw [fm_0l, z_x, fm_comm, ← fs_mul]
    refine fs_congr (fun i _ => ?_)
    show fm x (fm (a i) (fpw x i)) = fm (a i) (fm (fpw x i) x)
    rw [fm_comm x, fm_assoc]
  have h2 : IsP (n + 1) (fun x => fm r (g x)) := IsP_mono (IsP_smul r ⟨a, ha⟩) (by omega)
  obtain ⟨b, hb⟩ := IsP_add h1 h2
  refine ⟨b, fun x => ?_⟩
  rw [← hb]
  show fm (g x) (x ^^^ r) = fm (g x) x ^^^ fm r (g x)
  rw [fm_addR, fm_comm r]
/-- powers: x^m + r^m = (x + r) q(x) -/
theorem pw_div (r : B8) (m : Nat) : ∃ q : B8 → B8, IsP m q ∧ ∀ x, fpw x m ^^^ fpw r m = fm (q x) (x ^^^ r) := by
  induction m with
  | zero => exact ⟨fun _ => 0, IsP_zero 0, fun x => by show (1 : B8) ^^^ 1 = _; rw [fm_0l, x_s]⟩
  | succ m ih =>
    obtain ⟨q, hq, he⟩ := ih
    refine ⟨fun x => fm (q x) x ^^^ fpw r m, IsP_add ?_ (IsP_mono (IsP_const _) (by omega)), fun x => ?_⟩
    · have h0 := IsP_mulX 0 hq
      obtain ⟨b, hb⟩ := h0
      exact ⟨b, fun x => by rw [← hb]; show fm (q x) x = fm (q x) (x ^^^ 0); rw [x_z]⟩
    · have e1 : fpw x (m + 1) ^^^ fpw r (m + 1) = fm (fpw x m ^^^ fpw r m) x ^^^ fm (fpw r m) (x ^^^ r) := by
        show fm (fpw x m) x ^^^ fm (fpw r m) r = _
        rw [fm_addL, fm_addR, BitVec.xor_assoc, ← BitVec.xor_assoc (fm (fpw r m) x), x_s, z_x]
      rw [e1, he, fm_addL]
      congr 1
      rw [fm_assoc, fm_assoc, fm_comm (x ^^^ r)]
theorem IsP_div {n : Nat} {g : B8 → B8} (r : B8) (hg : IsP (n + 1) g) (h0 : g r = 0) : ∃ h : B8 → B8, IsP n h ∧ ∀ x, g x = fm (h x) (x ^^^ r) := by
  obtain ⟨a, ha⟩ := hg
  have hq : ∀ j, ∃ q : B8 → B8, IsP j q ∧ ∀ x, fpw x j ^^^ fpw r j = fm (q x) (x ^^^ r) := fun j => pw_div r j
  refine ⟨fun x => fs (n + 1) (fun j => fm (a j) ((hq j).choose x)), IsP_sum (fun i hi => IsP_smul (a i) (IsP_mono (hq i).choose_spec.1 (by omega))), fun x => ?_⟩
  have e1 : g x = g x ^^^ g r := by rw [h0, x_z]
  rw [e1, ha, ha]
  unfold pe
  rw [← fs_add, fm_comm, ← fs_mul]
  refine fs_congr (fun j _ => ?_)
  rw [← fm_addR, (hq j).choose_spec.2 x, fm_comm (x ^^^ r), fm_assoc]
/-- a polynomial of a degree below n with n roots is 0 -/
theorem IsP_roots : ∀ (n : Nat) (g : B8 → B8) (p : Nat → B8), IsP n g → (∀ i j, i < n → j < n → p i = p j → i = j) → (∀ i, i < n → g (p i) = 0) → ∀ x, g x = 0
  | 0, g, p, hg, _, _, x => by
    obtain ⟨a, ha⟩ := hg
    rw [ha]
    rfl
  | n + 1, g, p, hg, hp, h0, x => by
    obtain ⟨h, hh, he⟩ := IsP_div (p n) hg (h0 n (by omega))
    have h1 : ∀ i, i < n → h (p i) = 0 := by
      intro i hi
      have h2 := h0 i (by omega)
      rw [he] at h2
      by_cases q : h (p i) = 0
      · exact q
      · exact absurd h2 (fm_ne q (x_ne (fun z => by have := hp i n (by omega) (by omega) z; omega)))
    rw [he, IsP_roots n h p hh (fun i j hi hj => hp i j (by omega) (by omega)) h1 x, fm_0l]
/-! the polynomial through points, as the class finds it -/
def wab (p : Nat → B8) (i : Nat) (x : B8) : Nat → B8
  | 0 => 1
  | j + 1 => if j = i then wab p i x j else fm (wab p i x j) (x ^^^ p j)
def wgt (k : Nat) (p : Nat → B8) (i : Nat) (x : B8) : B8 := fm (wab p i x k) (finv (wab p i (p i) k))
def lag (k : Nat) (p v : Nat → B8) (x : B8) : B8 := fs k (fun i => fm (v i) (wgt k p i x))
theorem wab_P (p : Nat → B8) (i : Nat) : ∀ j, IsP (if i < j then j else j + 1) (fun x => wab p i x j)
  | 0 => by rw [if_neg (by omega)]; exact IsP_const 1
  | j + 1 => by
    have ih := wab_P p i j
    show IsP _ (fun x => if j = i then wab p i x j else fm (wab p i x j) (x ^^^ p j))
    by_cases h : j = i
    · subst h
      rw [if_neg (by omega)] at ih
      rw [if_pos (by omega)]
      simpa using ih
    · simp only [if_neg h]
      have := IsP_mulX (p j) ih
      by_cases h2 : i < j
      · rw [if_pos h2] at this
        rw [if_pos (by omega)]
        exact this
      · rw [if_neg h2] at this
        rw [if_neg (by omega)]
        exact this
theorem wgt_P {k i : Nat} (p : Nat → B8) (hi : i < k) : IsP k (fun x => wgt k p i x) := by
  have h := wab_P p i k
  rw [if_pos hi] at h
  obtain ⟨b, hb⟩ := IsP_smul (finv (wab p i (p i) k)) h
  exact ⟨b, fun x => by rw [← hb]; exact fm_comm _ _⟩
theorem lag_P (k : Nat) (p v : Nat → B8) : IsP k (fun x => lag k p v x) := IsP_sum (fun i hi => IsP_smul (v i) (wgt_P p hi))
theorem wab_ne {k i : Nat} {p : Nat → B8} (hp : ∀ a b, a < k → b < k → p a = p b → a = b) (hi : i < k) : ∀ j, j ≤ k → wab p i (p i) j ≠ 0
  | 0, _ => by show (1 : B8) ≠ 0; decide
  | j + 1, hj => by
    show (if j = i then wab p i (p i) j else fm (wab p i (p i) j) (p i ^^^ p j)) ≠ 0
    split
    · exact wab_ne hp hi j (by omega)
    · rename_i h
      exact fm_ne (wab_ne hp hi j (by omega)) (x_ne (fun z => h (hp i j hi (by omega) z).symm))
theorem wab_0 {p : Nat → B8} {i m : Nat} (h : m ≠ i) : ∀ j, m < j → wab p i (p m) j = 0
  | 0, hm => by omega
  | j + 1, hm => by
    show (if j = i then wab p i (p m) j else fm (wab p i (p m) j) (p m ^^^ p j)) = 0
    by_cases e : m = j
    · subst e
      rw [if_neg h, x_s, fm_0]
    · have ih := wab_0 (p := p) h j (by omega)
      split
      · exact ih
      · rw [ih, fm_0l]
theorem wgt_at {k i m : Nat} {p : Nat → B8} (hp : ∀ a b, a < k → b < k → p a = p b → a = b) (hi : i < k) (hm : m < k) : wgt k p i (p m) = if m = i then 1 else 0 := by
  unfold wgt
  by_cases h : m = i
  · subst h
    rw [if_pos rfl]
    exact fm_inv (wab_ne hp hi k (Nat.le_refl k))
  · rw [if_neg h, wab_0 h k hm, fm_0l]
theorem lag_at {k m : Nat} {p v : Nat → B8} (hp : ∀ a b, a < k → b < k → p a = p b → a = b) (hm : m < k) : lag k p v (p m) = v m := by
  unfold lag
  rw [fs_one hm (fun i hi h => by rw [wgt_at hp hi hm, if_neg (fun q => h q.symm), fm_0]), wgt_at hp hm hm, if_pos rfl, fm_1]
/-- k points of a polynomial of a degree below k give it again -/
theorem lag_re {k : Nat} {p v : Nat → B8} {f : B8 → B8} (hf : IsP k f) (hp : ∀ a b, a < k → b < k → p a = p b → a = b) (hv : ∀ i, i < k → v i = f (p i)) (x : B8) : lag k p v x = f x := by
  have h := IsP_roots k (fun x => lag k p v x ^^^ f x) p (IsP_add (lag_P k p v) hf) hp (fun i hi => by show lag k p v (p i) ^^^ f (p i) = 0; rw [lag_at hp hi, hv i hi, x_s]) x
  exact x_eq h
theorem lag_congr {k : Nat} {p p' v v' : Nat → B8} (hp : ∀ i, i < k → p i = p' i) (hv : ∀ i, i < k → v i = v' i) (x : B8) : lag k p v x = lag k p' v' x := by
  have hw : ∀ (i : Nat) (y : B8) (j : Nat), j ≤ k → wab p i y j = wab p' i y j := by
    intro i y j
    induction j with
    | zero => intro _; rfl
    | succ j ih =>
      intro hj
      show (if j = i then wab p i y j else fm (wab p i y j) (y ^^^ p j)) = (if j = i then wab p' i y j else fm (wab p' i y j) (y ^^^ p' j))
      rw [ih (by omega), hp j (by omega)]
  unfold lag
  refine fs_congr (fun i hi => ?_)
  unfold wgt
  rw [hv i hi, hw i x k (Nat.le_refl k), hw i (p i) k (Nat.le_refl k), hp i hi]
/-! elimination -/
/-- scaling row c, then adding it to all others -/
def elS (n c : Nat) (M : Nat → Nat → B8) : Nat → Nat → B8 := fun r j => if j ≤ n then (if r = c then fm (M c j) (finv (M c c)) else if r < n then M r j ^^^ fm (fm (M c j) (finv (M c c))) (M r c) else M r j) else M r j
def elN (n : Nat) (M : Nat → Nat → B8) : Nat → Nat → Nat → B8
  | 0 => M
  | c + 1 => elS n c (elN n M c)
def dotp (n : Nat) (r q : Nat → B8) : B8 := fs n (fun j => fm (r j) (q j))
theorem dotp_scale (n : Nat) (r q : Nat → B8) (c : B8) : dotp n (fun j => fm (r j) c) q = fm c (dotp n r q) := by
  unfold dotp
  rw [← fs_mul]
  exact fs_congr (fun i _ => by show fm (fm (r i) c) (q i) = fm c (fm (r i) (q i)); rw [fm_comm (r i) c, fm_assoc])
theorem dotp_add (n : Nat) (r r' q : Nat → B8) : dotp n (fun j => r j ^^^ r' j) q = dotp n r q ^^^ dotp n r' q := by
  unfold dotp
  rw [← fs_add]
  exact fs_congr (fun i _ => fm_addL _ _ _)
theorem dotp_congr {n : Nat} {r r' q : Nat → B8} (h : ∀ j, j < n → r j = r' j) : dotp n r q = dotp n r' q := fs_congr (fun i hi => by rw [h i hi])
/-- a polynomial of degree c exactly, with head 1, and roots p 0 .. p (c - 1) -/
def rt (p : Nat → B8) : Nat → Nat → B8
  | 0 => fun j => if j = 0 then 1 else 0
  | c + 1 => fun j => sh1 (rt p c) j ^^^ fm (p c) (rt p c j)
theorem rt_hi (p : Nat → B8) : ∀ c j, c < j → rt p c j = 0
  | 0, j, h => if_neg (by omega)
  | c + 1, j, h => by
    obtain ⟨j', rfl⟩ : ∃ j', j = j' + 1 := ⟨j - 1, by omega⟩
    show rt p c j' ^^^ fm (p c) (rt p c (j' + 1)) = 0
    rw [rt_hi p c j' (by omega), rt_hi p c (j' + 1) (by omega), fm_0, x_s]
theorem rt_1 (p : Nat → B8) : ∀ c, rt p c c = 1
  | 0 => rfl
  | c + 1 => by
    show rt p c c ^^^ fm (p c) (rt p c (c + 1)) = 1
    rw [rt_1 p c, rt_hi p c (c + 1) (by omega), fm_0, x_z]
def rprod (p : Nat → B8) (x : B8) : Nat → B8
  | 0 => 1
  | c + 1 => fm (rprod p x c) (x ^^^ p c)
theorem rt_eval (p : Nat → B8) (x : B8) : ∀ (c n : Nat), c < n → pe n (rt p c) x = rprod p x c
  | 0, n, h => by
    unfold pe
    rw [fs_one (m := 0) h (fun i _ hi => by rw [show rt p 0 i = 0 from if_neg hi, fm_0l])]
    show fm 1 1 = 1
    exact fm_1 1
  | c + 1, n, h => by
    obtain ⟨n', rfl⟩ : ∃ n', n = n' + 1 := ⟨n - 1, by omega⟩
    have i1 := rt_eval p x c n' (by omega)
    have i2 := rt_eval p x c (n' + 1) (by omega)
    have e : pe (n' + 1) (rt p (c + 1)) x = fm x (pe n' (rt p c) x) ^^^ fm (p c) (pe (n' + 1) (rt p c) x) := by
      unfold pe
      rw [← fs_mul, ← fs_mul]
      have e1 : fs (n' + 1) (fun j => fm (rt p (c + 1) j) (fpw x j)) = fs (n' + 1) (fun j => fm (sh1 (rt p c) j) (fpw x j)) ^^^ fs (n' + 1) (fun j => fm (p c) (fm (rt p c j) (fpw x j))) := by
        rw [← fs_add]
        refine fs_congr (fun j _ => ?_)
        show fm (sh1 (rt p c) j ^^^ fm (p c) (rt p c j)) (fpw x j) = _
        rw [fm_addL, fm_assoc]
      rw [e1]
      congr 1
      rw [fs_shift]
      show fm 0 _ ^^^ _ = _
      rw [fm_0l, z_x]
      refine fs_congr (fun j _ => ?_)
      show fm (rt p c j) (fm (fpw x j) x) = _
      rw [fm_comm x, fm_assoc]
    rw [e, i1, i2]
    show _ = fm (rprod p x c) (x ^^^ p c)
    rw [fm_addR, fm_comm x, fm_comm (p c)]
theorem rprod_0 (p : Nat → B8) {i : Nat} : ∀ c, i < c → rprod p (p i) c = 0
  | 0, h => by omega
  | c + 1, h => by
    show fm (rprod p (p i) c) (p i ^^^ p c) = 0
    by_cases e : i = c
    · subst e
      rw [x_s, fm_0]
    · rw [rprod_0 p c (by omega), fm_0l]
theorem rprod_ne {n : Nat} {p : Nat → B8} (hp : ∀ a b, a < n → b < n → p a = p b → a = b) {m : Nat} (hm : m < n) : ∀ c, c ≤ m → rprod p (p m) c ≠ 0
  | 0, _ => by show (1 : B8) ≠ 0; decide
  | c + 1, h => fm_ne (rprod_ne hp hm c (by omega)) (x_ne (fun z => by have := hp m c hm (by omega) z; omega))
/-- what holds ahead of column c -/
def elI (n : Nat) (p a : Nat → B8) (c : Nat) (M : Nat → Nat → B8) : Prop :=
  (∀ r j, r < n → j < c → M r j = if r = j then 1 else 0) ∧ (∀ r, r < n → dotp n (M r) a = M r n) ∧
  (∀ q : Nat → B8, (∀ i, i < c → pe n q (p i) = 0) → (∀ r, r < c → dotp n (M r) q = 0) ∧ (∀ r, c ≤ r → r < n → dotp n (M r) q = pe n q (p r)))
theorem el_pivot {n c : Nat} {p a : Nat → B8} {M : Nat → Nat → B8} (hp : ∀ x y, x < n → y < n → p x = p y → x = y) (hI : elI n p a c M) (hc : c < n) : M c c ≠ 0 := by
  obtain ⟨h1, -, h3⟩ := hI
  obtain ⟨-, h4⟩ := h3 (rt p c) (fun i hi => by rw [rt_eval p _ c n hc]; exact rprod_0 p c hi)
  have e := h4 c (Nat.le_refl c) hc
  rw [rt_eval p _ c n hc] at e
  have e2 : dotp n (M c) (rt p c) = M c c := by
    unfold dotp
    rw [fs_one hc (fun i hi hne => ?_), rt_1, fm_1]
    rcases Nat.lt_or_ge i c with h | h
    · rw [h1 c i hc h, if_neg (by omega), fm_0l]
    · rw [rt_hi p c i (by omega), fm_0]
  rw [← e2, e]
  exact rprod_ne hp hc c (Nat.le_refl c)
theorem el_step {n c : Nat} {p a : Nat → B8} {M : Nat → Nat → B8} (hp : ∀ x y, x < n → y < n → p x = p y → x = y) (hI : elI n p a c M) (hc : c < n) : elI n p a (c + 1) (elS n c M) := by
  have hpv := el_pivot hp hI hc
  obtain ⟨h1, h2, h3⟩ := hI
  have rowc : ∀ j, j ≤ n → elS n c M c j = fm (M c j) (finv (M c c)) := fun j hj => by unfold elS; rw [if_pos hj, if_pos rfl]
  have rowr : ∀ r, r ≠ c → r < n → ∀ j, j ≤ n → elS n c M r j = M r j ^^^ fm (fm (M c j) (finv (M c c))) (M r c) := fun r hr hn j hj => by unfold elS; rw [if_pos hj, if_neg hr, if_pos hn]
  have dc : ∀ q, dotp n (elS n c M c) q = fm (finv (M c c)) (dotp n (M c) q) := fun q => by
    rw [dotp_congr (r' := fun j => fm (M c j) (finv (M c c))) (fun j hj => rowc j (by omega)), dotp_scale]
  have dr : ∀ r, r ≠ c → r < n → ∀ q, dotp n (elS n c M r) q = dotp n (M r) q ^^^ fm (M r c) (fm (finv (M c c)) (dotp n (M c) q)) := fun r hr hn q => by
    rw [dotp_congr (r' := fun j => M r j ^^^ fm (fm (M c j) (finv (M c c))) (M r c)) (fun j hj => rowr r hr hn j (by omega)), dotp_add, dotp_scale, dotp_scale]
  refine ⟨fun r j hr hj => ?_, fun r hr => ?_, fun q hq => ⟨fun r hr => ?_, fun r hr hn => ?_⟩⟩
  · by_cases e : r = c
    · subst e
      rw [rowc j (by omega)]
      rcases Nat.lt_or_ge j r with h | h
      · rw [h1 r j hr h, if_neg (by omega), fm_0l]
      · obtain rfl : j = r := by omega
        rw [if_pos rfl, fm_inv hpv]
    · rw [rowr r e hr j (by omega)]
      rcases Nat.lt_or_ge j c with h | h
      · rw [h1 r j hr h, h1 c j hc h, if_neg (show ¬ c = j by omega), fm_0l, fm_0l, x_z]
      · obtain rfl : j = c := by omega
        rw [if_neg e, fm_inv hpv, fm_1l, x_s]
  · by_cases e : r = c
    · subst e
      rw [dc, h2 r hr, rowc n (Nat.le_refl n), fm_comm]
    · rw [dr r e hr, h2 r hr, h2 c hc, rowr r e hr n (Nat.le_refl n), fm_comm (M r c), fm_comm (finv _)]
  · obtain ⟨g1, g2⟩ := h3 q (fun i hi => hq i (by omega))
    have hcz : dotp n (M c) q = 0 := by rw [g2 c (Nat.le_refl c) hc]; exact hq c (by omega)
    by_cases e : r = c
    · subst e
      rw [dc, hcz, fm_0]
    · rw [dr r e (by omega), g1 r (by omega), hcz, fm_0, fm_0, x_s]
  · obtain ⟨g1, g2⟩ := h3 q (fun i hi => hq i (by omega))
    have hcz : dotp n (M c) q = 0 := by rw [g2 c (Nat.le_refl c) hc]; exact hq c (by omega)
    rw [dr r (by omega) hn, g2 r (by omega) hn, hcz, fm_0, fm_0, x_z]
theorem el_all {n : Nat} {p a : Nat → B8} {M : Nat → Nat → B8} (hp : ∀ x y, x < n → y < n → p x = p y → x = y) (hI : elI n p a 0 M) : ∀ c, c ≤ n → elI n p a c (elN n M c)
  | 0, _ => hI
  | c + 1, h => el_step hp (el_all hp hI c (by omega)) (by omega)
/-- the coefficients, found by elimination over k points, are those of the polynomial -/
theorem el_sol {n : Nat} {p v a : Nat → B8} {M : Nat → Nat → B8} (hp : ∀ x y, x < n → y < n → p x = p y → x = y) (hM : ∀ r j, r < n → j < n → M r j = fpw (p r) j) (hV : ∀ r, r < n → M r n = v r) (hv : ∀ r, r < n → v r = pe n a (p r)) {r : Nat} (hr : r < n) : elN n M n r n = a r := by
  have h0 : elI n p a 0 M := by
    have hd : ∀ q r, r < n → dotp n (M r) q = pe n q (p r) := fun q r hr => by
      unfold dotp pe
      exact fs_congr (fun j hj => by rw [hM r j hr hj, fm_comm])
    exact ⟨fun r j _ hj => absurd hj (Nat.not_lt_zero _), fun r hr => by rw [hd a r hr, hV r hr, hv r hr], fun q _ => ⟨fun r hr => absurd hr (Nat.not_lt_zero _), fun r _ hn => hd q r hn⟩⟩
  obtain ⟨h1, h2, -⟩ := el_all hp h0 n (Nat.le_refl n)
  rw [← h2 r hr]
  unfold dotp
  rw [fs_one hr (fun i hi hne => by rw [h1 r i hr hi, if_neg (fun q => hne q.symm), fm_0l]), h1 r r hr hr, if_pos rfl, fm_1l]
/-- Horner's way, from the highest coefficient on: what is left are i of them -/
def hor (n : Nat) (a : Nat → B8) (x : B8) : Nat → B8
  | 0 => 0
  | i + 1 => fm (hor n a x i) x ^^^ a (n - 1 - i)
theorem hor_pe (n : Nat) (a : Nat → B8) (x : B8) : ∀ i, i ≤ n → hor n a x i = fs i (fun j => fm (a (n - i + j)) (fpw x j))
  | 0, _ => rfl
  | i + 1, h => by
    show fm (hor n a x i) x ^^^ a (n - 1 - i) = _
    rw [hor_pe n a x i (by omega), fs_shift, BitVec.xor_comm]
    congr 1
    · show a (n - 1 - i) = fm (a (n - (i + 1) + 0)) 1
      rw [fm_1]
      congr 1
      omega
    · rw [fm_comm, ← fs_mul]
      refine fs_congr (fun j _ => ?_)
      show fm x (fm (a (n - i + j)) (fpw x j)) = fm (a (n - (i + 1) + (j + 1))) (fm (fpw x j) x)
      rw [show n - (i + 1) + (j + 1) = n - i + j by omega, fm_comm x, fm_assoc]
theorem hor_all (n : Nat) (a : Nat → B8) (x : B8) : hor n a x n = pe n a x := by
  rw [hor_pe n a x n (Nat.le_refl n)]
  unfold pe
  refine fs_congr (fun j _ => ?_)
  rw [show n - n + j = j by omega]
/-! the model's way -/
def mab (k : Nat) (d0 : B8) (x : B8) (i : Nat) : Nat → B8
  | 0 => d0
  | j + 1 => if j = i then mab k d0 x i j else fm (mab k d0 x i j) (x ^^^ BitVec.ofNat 8 j)
theorem mab_wab (k : Nat) (d0 x : B8) (i : Nat) : ∀ j, mab k d0 x i j = fm d0 (wab (fun j => BitVec.ofNat 8 j) i x j)
  | 0 => (fm_1 d0).symm
  | j + 1 => by
    show (if j = i then mab k d0 x i j else fm (mab k d0 x i j) (x ^^^ BitVec.ofNat 8 j)) = fm d0 (if j = i then wab _ i x j else fm (wab _ i x j) (x ^^^ BitVec.ofNat 8 j))
    split
    · exact mab_wab k d0 x i j
    · rw [mab_wab k d0 x i j, fm_assoc]
def lagM (k : Nat) (d : Nat → B8) (x : B8) : B8 := fs k (fun i => fm (mab k (d i) x i k) (finv (mab k 1 (BitVec.ofNat 8 i) i k)))
theorem lagM_lag (k : Nat) (d : Nat → B8) (x : B8) : lagM k d x = lag k (fun j => BitVec.ofNat 8 j) d x := by
  unfold lagM lag
  refine fs_congr (fun i _ => ?_)
  unfold wgt
  rw [mab_wab, mab_wab, fm_1l, fm_assoc]
theorem ofn_inj {k : Nat} (hk : k ≤ 256) : ∀ a b, a < k → b < k → BitVec.ofNat 8 a = BitVec.ofNat 8 b → a = b := by
  intro a b ha hb h
  have h1 := congrArg BitVec.toNat h
  rw [BitVec.toNat_ofNat, BitVec.toNat_ofNat, Nat.mod_eq_of_lt (by omega), Nat.mod_eq_of_lt (by omega)] at h1
  exact h1
/-- the class's packets are the model's -/
theorem lag_packet {k : Nat} (hk : k ≤ 8) (d : Nat → B8) (x : Nat) : lag k (fun j => BitVec.ofNat 8 j) d (BitVec.ofNat 8 x) = if x < k then d x else lagM k d (BitVec.ofNat 8 x) := by
  split
  · rename_i h
    exact lag_at (p := fun j => BitVec.ofNat 8 j) (ofn_inj (by omega)) h
  · exact (lagM_lag k d _).symm
/-- k packets give the data, by the polynomial through them -/
theorem lag_back {k : Nat} (hk : k ≤ 8) {d : Nat → B8} {p v : Nat → B8} (hp : ∀ a b, a < k → b < k → p a = p b → a = b) (hv : ∀ i, i < k → v i = lag k (fun j => BitVec.ofNat 8 j) d (p i)) {x : Nat} (hx : x < k) : lag k p v (BitVec.ofNat 8 x) = d x := by
  rw [lag_re (lag_P k (fun j => BitVec.ofNat 8 j) d) hp hv]
  exact lag_at (p := fun j => BitVec.ofNat 8 j) (ofn_inj (by omega)) hx
/-- .. by elimination -/
theorem el_back {k : Nat} (hk : k ≤ 8) {d : Nat → B8} {p v : Nat → B8} {M : Nat → Nat → B8} (hp : ∀ a b, a < k → b < k → p a = p b → a = b) (hv : ∀ i, i < k → v i = lag k (fun j => BitVec.ofNat 8 j) d (p i)) (hM : ∀ r j, r < k → j < k → M r j = fpw (p r) j) (hV : ∀ r, r < k → M r k = v r) {x : Nat} (hx : x < k) : hor k (fun r => elN k M k r k) (BitVec.ofNat 8 x) k = d x := by
  obtain ⟨a, ha⟩ := lag_P k (fun j => BitVec.ofNat 8 j) d
  have e : ∀ r, r < k → elN k M k r k = a r := fun r hr => el_sol hp hM hV (fun i hi => by rw [hv i hi]; exact ha (p i)) hr
  rw [hor_all]
  have e2 : pe k (fun r => elN k M k r k) (BitVec.ofNat 8 x) = pe k a (BitVec.ofNat 8 x) := by
    unfold pe
    exact fs_congr (fun j hj => by show fm (elN k M k j k) _ = _; rw [e j hj])
  rw [e2, ← ha]
  exact lag_at (p := fun j => BitVec.ofNat 8 j) (ofn_inj (by omega)) hx
