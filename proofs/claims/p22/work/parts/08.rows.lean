/-! rows of my own: numbers by their values, calls with the frame put together -/
def nF (f : Nat → Nat) : Nat → Int32 := fun i => nI (f i)
def un (f : Nat → Nat) (j y : Nat) : Nat → Nat := fun i => if i = j then y else f i
theorem upd_nF (f : Nat → Nat) (j y : Nat) : upd (nF f) j (nI y) = nF (un f j y) := by
  funext i
  by_cases h : i = j
  · simp [upd, nF, un, h]
  · simp [upd, nF, un, h]
theorem un_s (f : Nat → Nat) (j y : Nat) : un f j y j = y := by simp [un]
theorem un_n (f : Nat → Nat) {j i : Nat} (y : Nat) (h : i ≠ j) : un f j y i = f i := by simp [un, h]
section Q1
variable {p : Program} {l : Launch} {e : Env} {R : Room} {s : State} {m : MethodId} {args : Array Value} {below : List Frame} {meth : Method} {c : Code} {H : Heap} {locs : List Loc} {cells slots : Nat} {Q : State → Prop}
variable {cc : ByteArray} {pc : Nat} {ls : Array Slot} {rest : List Value} {D : va_G} {cl : List vw_C} {A : Nat → Prop} {a : Nat} {tys : List (ClassId × FieldType)} {ws : va_W} {H0 : Heap}

theorem q_top {x y : Int32} (h : x = y) (k : W p l e R s m args below meth c H locs cells slots Q (F0 m pc ls (.int y :: rest))) : W p l e R s m args below meth c H locs cells slots Q (F0 m pc ls (.int x :: rest)) := by
  subst h
  exact k
theorem q_eqI {x y : Int32} : x = y ↔ x.toInt = y.toInt := by rw [← Int32.toInt_inj]
theorem q_ltI {x y : Int32} : x < y ↔ x.toInt < y.toInt := Int32.lt_iff_toInt_lt
theorem q_leI {x y : Int32} : x ≤ y ↔ x.toInt ≤ y.toInt := Int32.le_iff_toInt_le
theorem q_0I : (0 : Int32).toInt = 0 := rfl
theorem q_icmp_eq (hexec : p.tables.exec = Jvm.exec) (hb : c.code = cc) {x y : Int32} {u v : Int} {off : Int} {tgt : Nat} (hdg : decode cc pc = .ok (.if_icmp .eq off, 3)) (ht : (pc : Int) + off = (tgt : Int)) (hu : x.toInt = u) (hv : y.toInt = v)
    (kt : u = v → W p l e R s m args below meth c H locs cells slots Q (F0 m tgt ls rest)) (kf : u ≠ v → W p l e R s m args below meth c H locs cells slots Q (F0 m (pc + 3) ls rest)) : W p l e R s m args below meth c H locs cells slots Q (F0 m pc ls (.int y :: .int x :: rest)) := by
  subst hu
  subst hv
  exact lv_icmp_eq hexec hb hdg ht (fun h => kt (by first | exact q_eqI.mp h | exact fun z => h (q_eqI.mpr z) | (have h9 := mt q_eqI.mpr h; omega))) (fun h => kf (by first | exact q_eqI.mp h | exact fun z => h (q_eqI.mpr z) | (have h9 := mt q_eqI.mpr h; omega)))
theorem q_if_eq (hexec : p.tables.exec = Jvm.exec) (hb : c.code = cc) {x : Int32} {u : Int} {off : Int} {tgt : Nat} (hdg : decode cc pc = .ok (.ifCond .eq off, 3)) (ht : (pc : Int) + off = (tgt : Int)) (hu : x.toInt = u)
    (kt : u = 0 → W p l e R s m args below meth c H locs cells slots Q (F0 m tgt ls rest)) (kf : u ≠ 0 → W p l e R s m args below meth c H locs cells slots Q (F0 m (pc + 3) ls rest)) : W p l e R s m args below meth c H locs cells slots Q (F0 m pc ls (.int x :: rest)) := by
  subst hu
  exact lv_if_eq hexec hb hdg ht (fun h => kt (by first | exact q_eqI.mp h | exact fun z => h (q_eqI.mpr z) | (have h9 := mt q_eqI.mpr h; rw [q_0I] at h9; omega))) (fun h => kf (by first | exact q_eqI.mp h | exact fun z => h (q_eqI.mpr z) | (have h9 := mt q_eqI.mpr h; rw [q_0I] at h9; omega)))
theorem q_icmp_ne (hexec : p.tables.exec = Jvm.exec) (hb : c.code = cc) {x y : Int32} {u v : Int} {off : Int} {tgt : Nat} (hdg : decode cc pc = .ok (.if_icmp .ne off, 3)) (ht : (pc : Int) + off = (tgt : Int)) (hu : x.toInt = u) (hv : y.toInt = v)
    (kt : u ≠ v → W p l e R s m args below meth c H locs cells slots Q (F0 m tgt ls rest)) (kf : u = v → W p l e R s m args below meth c H locs cells slots Q (F0 m (pc + 3) ls rest)) : W p l e R s m args below meth c H locs cells slots Q (F0 m pc ls (.int y :: .int x :: rest)) := by
  subst hu
  subst hv
  exact lv_icmp_ne hexec hb hdg ht (fun h => kt (by first | exact q_eqI.mp h | exact fun z => h (q_eqI.mpr z) | (have h9 := mt q_eqI.mpr h; omega))) (fun h => kf (by first | exact q_eqI.mp h | exact fun z => h (q_eqI.mpr z) | (have h9 := mt q_eqI.mpr h; omega)))
theorem q_if_ne (hexec : p.tables.exec = Jvm.exec) (hb : c.code = cc) {x : Int32} {u : Int} {off : Int} {tgt : Nat} (hdg : decode cc pc = .ok (.ifCond .ne off, 3)) (ht : (pc : Int) + off = (tgt : Int)) (hu : x.toInt = u)
    (kt : u ≠ 0 → W p l e R s m args below meth c H locs cells slots Q (F0 m tgt ls rest)) (kf : u = 0 → W p l e R s m args below meth c H locs cells slots Q (F0 m (pc + 3) ls rest)) : W p l e R s m args below meth c H locs cells slots Q (F0 m pc ls (.int x :: rest)) := by
  subst hu
  exact lv_if_ne hexec hb hdg ht (fun h => kt (by first | exact q_eqI.mp h | exact fun z => h (q_eqI.mpr z) | (have h9 := mt q_eqI.mpr h; rw [q_0I] at h9; omega))) (fun h => kf (by first | exact q_eqI.mp h | exact fun z => h (q_eqI.mpr z) | (have h9 := mt q_eqI.mpr h; rw [q_0I] at h9; omega)))
theorem q_icmp_lt (hexec : p.tables.exec = Jvm.exec) (hb : c.code = cc) {x y : Int32} {u v : Int} {off : Int} {tgt : Nat} (hdg : decode cc pc = .ok (.if_icmp .lt off, 3)) (ht : (pc : Int) + off = (tgt : Int)) (hu : x.toInt = u) (hv : y.toInt = v)
    (kt : u < v → W p l e R s m args below meth c H locs cells slots Q (F0 m tgt ls rest)) (kf : v ≤ u → W p l e R s m args below meth c H locs cells slots Q (F0 m (pc + 3) ls rest)) : W p l e R s m args below meth c H locs cells slots Q (F0 m pc ls (.int y :: .int x :: rest)) := by
  subst hu
  subst hv
  exact lv_icmp_lt hexec hb hdg ht (fun h => kt (by first | exact q_ltI.mp h | exact fun z => h (q_ltI.mpr z) | (have h9 := mt q_ltI.mpr h; omega))) (fun h => kf (by first | exact q_ltI.mp h | exact fun z => h (q_ltI.mpr z) | (have h9 := mt q_ltI.mpr h; omega)))
theorem q_if_lt (hexec : p.tables.exec = Jvm.exec) (hb : c.code = cc) {x : Int32} {u : Int} {off : Int} {tgt : Nat} (hdg : decode cc pc = .ok (.ifCond .lt off, 3)) (ht : (pc : Int) + off = (tgt : Int)) (hu : x.toInt = u)
    (kt : u < 0 → W p l e R s m args below meth c H locs cells slots Q (F0 m tgt ls rest)) (kf : 0 ≤ u → W p l e R s m args below meth c H locs cells slots Q (F0 m (pc + 3) ls rest)) : W p l e R s m args below meth c H locs cells slots Q (F0 m pc ls (.int x :: rest)) := by
  subst hu
  exact lv_if_lt hexec hb hdg ht (fun h => kt (by first | exact q_ltI.mp h | exact fun z => h (q_ltI.mpr z) | (have h9 := mt q_ltI.mpr h; rw [q_0I] at h9; omega))) (fun h => kf (by first | exact q_ltI.mp h | exact fun z => h (q_ltI.mpr z) | (have h9 := mt q_ltI.mpr h; rw [q_0I] at h9; omega)))
theorem q_icmp_ge (hexec : p.tables.exec = Jvm.exec) (hb : c.code = cc) {x y : Int32} {u v : Int} {off : Int} {tgt : Nat} (hdg : decode cc pc = .ok (.if_icmp .ge off, 3)) (ht : (pc : Int) + off = (tgt : Int)) (hu : x.toInt = u) (hv : y.toInt = v)
    (kt : v ≤ u → W p l e R s m args below meth c H locs cells slots Q (F0 m tgt ls rest)) (kf : u < v → W p l e R s m args below meth c H locs cells slots Q (F0 m (pc + 3) ls rest)) : W p l e R s m args below meth c H locs cells slots Q (F0 m pc ls (.int y :: .int x :: rest)) := by
  subst hu
  subst hv
  exact lv_icmp_ge hexec hb hdg ht (fun h => kt (by first | exact q_leI.mp h | exact fun z => h (q_leI.mpr z) | (have h9 := mt q_leI.mpr h; omega))) (fun h => kf (by first | exact q_leI.mp h | exact fun z => h (q_leI.mpr z) | (have h9 := mt q_leI.mpr h; omega)))
theorem q_if_ge (hexec : p.tables.exec = Jvm.exec) (hb : c.code = cc) {x : Int32} {u : Int} {off : Int} {tgt : Nat} (hdg : decode cc pc = .ok (.ifCond .ge off, 3)) (ht : (pc : Int) + off = (tgt : Int)) (hu : x.toInt = u)
    (kt : 0 ≤ u → W p l e R s m args below meth c H locs cells slots Q (F0 m tgt ls rest)) (kf : u < 0 → W p l e R s m args below meth c H locs cells slots Q (F0 m (pc + 3) ls rest)) : W p l e R s m args below meth c H locs cells slots Q (F0 m pc ls (.int x :: rest)) := by
  subst hu
  exact lv_if_ge hexec hb hdg ht (fun h => kt (by first | exact q_leI.mp h | exact fun z => h (q_leI.mpr z) | (have h9 := mt q_leI.mpr h; rw [q_0I] at h9; omega))) (fun h => kf (by first | exact q_leI.mp h | exact fun z => h (q_leI.mpr z) | (have h9 := mt q_leI.mpr h; rw [q_0I] at h9; omega)))
theorem q_icmp_gt (hexec : p.tables.exec = Jvm.exec) (hb : c.code = cc) {x y : Int32} {u v : Int} {off : Int} {tgt : Nat} (hdg : decode cc pc = .ok (.if_icmp .gt off, 3)) (ht : (pc : Int) + off = (tgt : Int)) (hu : x.toInt = u) (hv : y.toInt = v)
    (kt : v < u → W p l e R s m args below meth c H locs cells slots Q (F0 m tgt ls rest)) (kf : u ≤ v → W p l e R s m args below meth c H locs cells slots Q (F0 m (pc + 3) ls rest)) : W p l e R s m args below meth c H locs cells slots Q (F0 m pc ls (.int y :: .int x :: rest)) := by
  subst hu
  subst hv
  exact lv_icmp_gt hexec hb hdg ht (fun h => kt (by first | exact q_ltI.mp h | exact fun z => h (q_ltI.mpr z) | (have h9 := mt q_ltI.mpr h; omega))) (fun h => kf (by first | exact q_ltI.mp h | exact fun z => h (q_ltI.mpr z) | (have h9 := mt q_ltI.mpr h; omega)))
theorem q_if_gt (hexec : p.tables.exec = Jvm.exec) (hb : c.code = cc) {x : Int32} {u : Int} {off : Int} {tgt : Nat} (hdg : decode cc pc = .ok (.ifCond .gt off, 3)) (ht : (pc : Int) + off = (tgt : Int)) (hu : x.toInt = u)
    (kt : 0 < u → W p l e R s m args below meth c H locs cells slots Q (F0 m tgt ls rest)) (kf : u ≤ 0 → W p l e R s m args below meth c H locs cells slots Q (F0 m (pc + 3) ls rest)) : W p l e R s m args below meth c H locs cells slots Q (F0 m pc ls (.int x :: rest)) := by
  subst hu
  exact lv_if_gt hexec hb hdg ht (fun h => kt (by first | exact q_ltI.mp h | exact fun z => h (q_ltI.mpr z) | (have h9 := mt q_ltI.mpr h; rw [q_0I] at h9; omega))) (fun h => kf (by first | exact q_ltI.mp h | exact fun z => h (q_ltI.mpr z) | (have h9 := mt q_ltI.mpr h; rw [q_0I] at h9; omega)))
theorem q_icmp_le (hexec : p.tables.exec = Jvm.exec) (hb : c.code = cc) {x y : Int32} {u v : Int} {off : Int} {tgt : Nat} (hdg : decode cc pc = .ok (.if_icmp .le off, 3)) (ht : (pc : Int) + off = (tgt : Int)) (hu : x.toInt = u) (hv : y.toInt = v)
    (kt : u ≤ v → W p l e R s m args below meth c H locs cells slots Q (F0 m tgt ls rest)) (kf : v < u → W p l e R s m args below meth c H locs cells slots Q (F0 m (pc + 3) ls rest)) : W p l e R s m args below meth c H locs cells slots Q (F0 m pc ls (.int y :: .int x :: rest)) := by
  subst hu
  subst hv
  exact lv_icmp_le hexec hb hdg ht (fun h => kt (by first | exact q_leI.mp h | exact fun z => h (q_leI.mpr z) | (have h9 := mt q_leI.mpr h; omega))) (fun h => kf (by first | exact q_leI.mp h | exact fun z => h (q_leI.mpr z) | (have h9 := mt q_leI.mpr h; omega)))
theorem q_if_le (hexec : p.tables.exec = Jvm.exec) (hb : c.code = cc) {x : Int32} {u : Int} {off : Int} {tgt : Nat} (hdg : decode cc pc = .ok (.ifCond .le off, 3)) (ht : (pc : Int) + off = (tgt : Int)) (hu : x.toInt = u)
    (kt : u ≤ 0 → W p l e R s m args below meth c H locs cells slots Q (F0 m tgt ls rest)) (kf : 0 < u → W p l e R s m args below meth c H locs cells slots Q (F0 m (pc + 3) ls rest)) : W p l e R s m args below meth c H locs cells slots Q (F0 m pc ls (.int x :: rest)) := by
  subst hu
  exact lv_if_le hexec hb hdg ht (fun h => kt (by first | exact q_leI.mp h | exact fun z => h (q_leI.mpr z) | (have h9 := mt q_leI.mpr h; rw [q_0I] at h9; omega))) (fun h => kf (by first | exact q_leI.mp h | exact fun z => h (q_leI.mpr z) | (have h9 := mt q_leI.mpr h; rw [q_0I] at h9; omega)))
theorem q_iald (hexec : p.tables.exec = Jvm.exec) (hb : c.code = cc) (hK : va_K D cl tys s) (hP : va_P D cl ws H) (q0 t0 : Nat) {cA : ClassId} {n j : Nat} {f : Nat → Nat} (ha : ws[q0]? = some (a, .inl (cA, n, .inl (nF f)))) (ht : tys[t0]? = some (cA, .int)) (hj : j < n) (hn : n < 2 ^ 31) (hdg : decode cc pc = .ok (.iaload, 1))
    (kk : W p l e R s m args below meth c H locs cells slots Q (F0 m (pc + 1) ls (.int (nI (f j)) :: rest))) : W p l e R s m args below meth c H locs cells slots Q (F0 m pc ls (.int (nI j) :: .ref a :: rest)) := by
  refine va_iald hexec hb hK hP q0 t0 ha ht (vp_in_nI hj hn) hdg ?_
  rw [nI_clamp (by omega)]
  exact kk
theorem q_zald (hexec : p.tables.exec = Jvm.exec) (hb : c.code = cc) (hK : va_K D cl tys s) (hP : va_P D cl ws H) (q0 t0 : Nat) {cA : ClassId} {n j : Nat} {f : Nat → Nat} (ha : ws[q0]? = some (a, .inl (cA, n, .inl (nF f)))) (ht : tys[t0]? = some (cA, .boolean)) (hj : j < n) (hn : n < 2 ^ 31) (hdg : decode cc pc = .ok (.baload, 1))
    (kk : W p l e R s m args below meth c H locs cells slots Q (F0 m (pc + 1) ls (.int (nI (f j)) :: rest))) : W p l e R s m args below meth c H locs cells slots Q (F0 m pc ls (.int (nI j) :: .ref a :: rest)) := by
  refine va_zald hexec hb hK hP q0 t0 ha ht (vp_in_nI hj hn) hdg ?_
  rw [nI_clamp (by omega)]
  exact kk
theorem q_iast (hexec : p.tables.exec = Jvm.exec) (hb : c.code = cc) (hK : va_K D cl tys s) (hP : va_P D cl ws H) (hD : va_D A ws) (hS : va_S A H0 H locs) (q0 t0 : Nat) {cA : ClassId} {n j y : Nat} {f : Nat → Nat} (ha : ws[q0]? = some (a, .inl (cA, n, .inl (nF f)))) (ht : tys[t0]? = some (cA, .int)) (hj : j < n) (hn : n < 2 ^ 31) (hdg : decode cc pc = .ok (.iastore, 1))
    (kk : ∀ (H1 : Heap) (locs1 : List Loc), va_P D cl (ws.set q0 (a, .inl (cA, n, .inl (nF (un f j y))))) H1 → va_D A (ws.set q0 (a, .inl (cA, n, .inl (nF (un f j y))))) → va_S A H0 H1 locs1 → W p l e R s m args below meth c H1 locs1 cells slots Q (F0 m (pc + 1) ls rest)) : W p l e R s m args below meth c H locs cells slots Q (F0 m pc ls (.int (nI y) :: .int (nI j) :: .ref a :: rest)) := by
  refine va_iast hexec hb hK hP hD hS q0 t0 ha ht (vp_in_nI hj hn) hdg ?_
  rw [nI_clamp (by omega), upd_nF]
  exact kk
theorem q_nar (y : Nat) (h : y ≤ 1) : vp_nar .boolean (nI y) = nI y := by
  rcases (show y = 0 ∨ y = 1 by omega) with rfl | rfl <;> rfl
theorem q_narZ (y : Nat) (h : y ≤ 1) : narrow .boolean (.int (nI y)) = .int (nI y) := by
  rcases (show y = 0 ∨ y = 1 by omega) with rfl | rfl <;> rfl
theorem q_zast (hexec : p.tables.exec = Jvm.exec) (hb : c.code = cc) (hK : va_K D cl tys s) (hP : va_P D cl ws H) (hD : va_D A ws) (hS : va_S A H0 H locs) (q0 t0 : Nat) {cA : ClassId} {n j y : Nat} {f : Nat → Nat} (ha : ws[q0]? = some (a, .inl (cA, n, .inl (nF f)))) (ht : tys[t0]? = some (cA, .boolean)) (hj : j < n) (hn : n < 2 ^ 31) (hy : y ≤ 1) (hdg : decode cc pc = .ok (.bastore, 1))
    (kk : ∀ (H1 : Heap) (locs1 : List Loc), va_P D cl (ws.set q0 (a, .inl (cA, n, .inl (nF (un f j y))))) H1 → va_D A (ws.set q0 (a, .inl (cA, n, .inl (nF (un f j y))))) → va_S A H0 H1 locs1 → W p l e R s m args below meth c H1 locs1 cells slots Q (F0 m (pc + 1) ls rest)) : W p l e R s m args below meth c H locs cells slots Q (F0 m pc ls (.int (nI y) :: .int (nI j) :: .ref a :: rest)) := by
  refine va_zast hexec hb hK hP hD hS q0 t0 ha ht (vp_in_nI hj hn) hdg ?_
  rw [nI_clamp (by omega), q_nar y hy, upd_nF]
  exact kk
theorem q_aald (hexec : p.tables.exec = Jvm.exec) (hb : c.code = cc) (hK : va_K D cl tys s) (hP : va_P D cl ws H) (q0 t0 : Nat) {cA : ClassId} {n j b : Nat} {f : Nat → Option Nat} (ha : ws[q0]? = some (a, .inl (cA, n, .inr (.inr (.inr (.inr f)))))) (ht : tys[t0]? = some (cA, .array .int)) (hj : j < n) (hn : n < 2 ^ 31) (hf : f j = some b) (hdg : decode cc pc = .ok (.aaload, 1))
    (kk : W p l e R s m args below meth c H locs cells slots Q (F0 m (pc + 1) ls (.ref b :: rest))) : W p l e R s m args below meth c H locs cells slots Q (F0 m pc ls (.int (nI j) :: .ref a :: rest)) := by
  have hin : vp_in (nI j) n := vp_in_nI hj hn
  have hc : (nI j).toNatClampNeg = j := nI_clamp (by omega)
  exact W.aald (v := .ref b) (ty := .array .int) hexec hb (hP q0 _ ha) ((hK.2 t0 _ ht).1 n (fun j => va_rf (f j))) rfl (fun q => by cases q) (by show ¬ ((nI j) < 0 ∨ (arrV _ _ _).slots.size ≤ _); rw [arrV_size]; exact hin) (by show (arrV _ _ _).slots[_]? = _; rw [hc, arrV_read _ _ hj, hf]; rfl) rfl rfl hdg kk
end Q1
section Q2
variable {p : Program} {l : Launch} {e : Env} {R : Room} {s : State} {m : MethodId} {args : Array Value} {below : List Frame} {meth : Method} {c : Code} {H : Heap} {locs : List Loc} {cells slots : Nat} {Q : State → Prop}
variable {cc : ByteArray} {pc : Nat} {ls : Array Slot} {rest st0 : List Value} {D : va_G} {cl : List vw_C} {A A0 : Nat → Prop} {a : Array Value} {tys : List (ClassId × FieldType)} {H0 : Heap} {mc ms : Nat}

/-- a call that only reads -/
theorem q_csi {post : Int32 → Prop} (hr : va_Run p l e R s m args below meth c H locs cells slots 0 0 (F0 m pc ls st0) rest (vp_Si post a) (fun _ => False))
    (kk : ∀ r : Int32, post r → W p l e R s m args below meth c H locs cells slots Q (F0 m (pc + 3) ls (.int r :: rest))) : W p l e R s m args below meth c H locs cells slots Q (F0 m pc ls st0) := by
  intro T hT X
  obtain ⟨v, st₀, t, T', L, h0, X', hL, e1, -, ⟨r, hv, hp, hh⟩, st⟩ := hr T hT X
  cases hv
  obtain ⟨t2, a1, b1⟩ := kk r hp T' (by rw [e1, hh, h0]) (Stand.forget X' (fun q h => (hL q h).elim))
  exact ⟨t2, st t2 a1, b1⟩
/-- a call that writes, void: the rest stays -/
theorem q_cv {S : Type} {post : S → Prop} {ws wc wr : va_W} {w1 : S → va_W} (hr : va_Run p l e R s m args below meth c H locs cells slots mc ms (F0 m pc ls st0) rest (va_Qv post (fun u t => va_P D cl (w1 u) t.heap ∧ va_D (va_A wc H.size) (w1 u)) (va_A wc H.size) a) (va_A wc H.size))
    (hP : va_P D cl ws H) (hD : va_D A0 ws) (hS : va_S A0 H0 H locs) (hA : ∀ q, H0.size ≤ q → A0 q) (isC isR : List Nat) (hC : isC.map (fun i => ws[i]?) = wc.map some) (hR : isR.map (fun i => ws[i]?) = wr.map some) (hn : va_nd isR = true) (hdis : ∀ i ∈ isR, i ∉ isC)
    (kk : ∀ (u : S) (H1 : Heap) (locs1 : List Loc), post u → va_P D cl (wr ++ w1 u) H1 → va_D A0 (wr ++ w1 u) → va_S A0 H0 H1 locs1 → W p l e R s m args below meth c H1 locs1 (cells + mc) (slots + ms) Q (F0 m (pc + 3) ls rest)) : W p l e R s m args below meth c H locs cells slots Q (F0 m pc ls st0) := by
  have hF : ∀ q, va_A wc H.size q → A0 q := va_free hD hS hA isC hC
  refine va_callv hr hS (fun q _ h => hF q h) hF (fun u t H1 locs1 ht hvm hw hB hz1 hk1 hS1 => ?_)
  obtain ⟨hP1, hD1⟩ := hB
  rw [ht] at hP1
  obtain ⟨hP2, hD2⟩ := va_join hP hD isC isR hC hR hn hdis hk1 hF hP1 hD1
  exact kk u H1 locs1 hw hP2 hD2 hS1
/-- .. with an int -/
theorem q_ci {S : Type} {post : Int32 → S → Prop} {ws wc wr : va_W} {w1 : S → va_W} (hr : va_Run p l e R s m args below meth c H locs cells slots mc ms (F0 m pc ls st0) rest (va_Qi post (fun u t => va_P D cl (w1 u) t.heap ∧ va_D (va_A wc H.size) (w1 u)) (va_A wc H.size) a) (va_A wc H.size))
    (hP : va_P D cl ws H) (hD : va_D A0 ws) (hS : va_S A0 H0 H locs) (hA : ∀ q, H0.size ≤ q → A0 q) (isC isR : List Nat) (hC : isC.map (fun i => ws[i]?) = wc.map some) (hR : isR.map (fun i => ws[i]?) = wr.map some) (hn : va_nd isR = true) (hdis : ∀ i ∈ isR, i ∉ isC)
    (kk : ∀ (r : Int32) (u : S) (H1 : Heap) (locs1 : List Loc), post r u → va_P D cl (wr ++ w1 u) H1 → va_D A0 (wr ++ w1 u) → va_S A0 H0 H1 locs1 → W p l e R s m args below meth c H1 locs1 (cells + mc) (slots + ms) Q (F0 m (pc + 3) ls (.int r :: rest))) : W p l e R s m args below meth c H locs cells slots Q (F0 m pc ls st0) := by
  have hF : ∀ q, va_A wc H.size q → A0 q := va_free hD hS hA isC hC
  refine va_calli hr hS (fun q _ h => hF q h) hF (fun r u t H1 locs1 ht hvm hw hB hz1 hk1 hS1 => ?_)
  obtain ⟨hP1, hD1⟩ := hB
  rw [ht] at hP1
  obtain ⟨hP2, hD2⟩ := va_join hP hD isC isR hC hR hn hdis hk1 hF hP1 hD1
  exact kk r u H1 locs1 hw hP2 hD2 hS1
end Q2
/-- the words that nest mates need -/
def nestW : List Cond := [.methodLinkNest RX3 9 yX2_init "RepairSender", .fieldLinkNest RX0 23 "RepairSender$Points" "places" "[I" "RepairSender", .fieldLinkNest RX0 33 "RepairSender$Points" "values" "[I" "RepairSender", .fieldLinkNest RX3 75 "RepairSender$Points" "values" "[I" "RepairSender", .fieldLinkNest RX0 16 "RepairSender$Points" "count" "I" "RepairSender", .fieldLinkNest RX3 160 "RepairSender$Points" "count" "I" "RepairSender", .methodLinkNest RX3 38 yX0_init "RepairSender", .methodLinkNest RX3 167 yX2_clear "RepairSender", .methodLinkNest RX3 170 yX2_add "RepairSender", .methodLinkNest RX3 123 yX1_product "RepairSender", .methodLinkNest RX3 134 yX2_polynomialAt "RepairSender", .methodLinkNest RX2 26 yX1_product "RepairSender", .methodLinkNest RX2 31 yX1_inverse "RepairSender", .methodLinkNest RX3 146 yX0_write "RepairSender", .methodLinkNest RX0 27 yX1_product "RepairSender", .methodLinkNest RX3 150 yX0_solve "RepairSender", .methodLinkNest RX0 36 yX1_inverse "RepairSender", .methodLinkNest RX3 153 yX0_polynomialAt "RepairSender"]
def NK (U : State) : Prop := ∀ w ∈ nestW, va_Nw w U
theorem NK_call {U : State} (g : JFrame) (mk : MethodId) (a : Array Value) (h : NK U) : NK (U.calling g mk a) := by
  have key : ∀ w ∈ nestW, w.onTables = true := by decide +kernel
  exact fun w hw => va_Nw.same (u := U) (U := U.calling g mk a) (key w hw) rfl (h w hw)
theorem NK_warm {s U : State} (hW : s.WarmedH U.vm) (h : NK s) : NK U := by
  have key : ∀ w ∈ nestW, va_Nw w s → va_Nw w U := List.forall_mem_cons.mpr ⟨va_Nw.warmM hW, List.forall_mem_cons.mpr ⟨va_Nw.warmF hW, List.forall_mem_cons.mpr ⟨va_Nw.warmF hW, List.forall_mem_cons.mpr ⟨va_Nw.warmF hW, List.forall_mem_cons.mpr ⟨va_Nw.warmF hW, List.forall_mem_cons.mpr ⟨va_Nw.warmF hW, List.forall_mem_cons.mpr ⟨va_Nw.warmM hW, List.forall_mem_cons.mpr ⟨va_Nw.warmM hW, List.forall_mem_cons.mpr ⟨va_Nw.warmM hW, List.forall_mem_cons.mpr ⟨va_Nw.warmM hW, List.forall_mem_cons.mpr ⟨va_Nw.warmM hW, List.forall_mem_cons.mpr ⟨va_Nw.warmM hW, List.forall_mem_cons.mpr ⟨va_Nw.warmM hW, List.forall_mem_cons.mpr ⟨va_Nw.warmM hW, List.forall_mem_cons.mpr ⟨va_Nw.warmM hW, List.forall_mem_cons.mpr ⟨va_Nw.warmM hW, List.forall_mem_cons.mpr ⟨va_Nw.warmM hW, List.forall_mem_cons.mpr ⟨va_Nw.warmM hW, fun _ h => absurd h List.not_mem_nil⟩⟩⟩⟩⟩⟩⟩⟩⟩⟩⟩⟩⟩⟩⟩⟩⟩⟩
  exact fun w hw => key w hw (h w hw)
def PW (D : va_G) (tys : List (ClassId × FieldType)) (ws : va_W) (sz : Nat) (av : List Value) : Array Value → State → Prop :=
  va_Pc av (fun U => U.heap.size = sz ∧ va_P D vwCl ws U.heap ∧ va_K D vwCl tys U ∧ va_D (fun _ => True) ws ∧ NK U)
theorem PW_b {D : va_G} {tys : List (ClassId × FieldType)} {ws : va_W} {sz : Nat} {av : List Value} : FrameBlind (PW D tys ws sz av) := fun a U g mk q => by
  obtain ⟨q0, q1, qP, qK, qD, qN⟩ := q
  exact ⟨q0, q1, qP, va_K.moved (u := U) (U := U.calling g mk a) (Vm.Alike.refl U.vm) qK, qD, NK_call g mk a qN⟩
theorem PW_s {D : va_G} {tys : List (ClassId × FieldType)} {ws : va_W} {A : Nat → Prop} {s : State} {H : Heap} {As : List Value} (hP : va_P D vwCl ws H) (hK : va_K D vwCl tys s) (hD : va_D A ws) (hN : NK s) : PreS s H (PW D tys ws H.size As) As :=
  ⟨PW_b, fun U hU hW => ⟨rfl, by rw [hU], by rw [hU]; exact hP, va_K.moved hW.alike hK, hD.weaken (fun _ _ _ _ => trivial), NK_warm hW hN⟩⟩
theorem PW_v {D : va_G} {tys : List (ClassId × FieldType)} {ws : va_W} {A : Nat → Prop} {s : State} {H : Heap} {As : List Value} {b q0 ci : Nat} {q : vw_C} {fs : List Value} (hP : va_P D vwCl ws H) (hK : va_K D vwCl tys s) (hD : va_D A ws) (hN : NK s) (hc : vwCl[ci]? = some q) (he : ws[q0]? = some (b, .inr (ci, fs))) : PreV s H q.1 b (PW D tys ws H.size (.ref b :: As)) As :=
  ⟨PW_b, va_recv hK hP hc he, (PW_s hP hK hD hN).2⟩
/-- no world -/
def P0 (av : List Value) : Array Value → State → Prop := va_Pc av (fun _ => True)
theorem P0_s {s : State} {H : Heap} {As : List Value} : PreS s H (P0 As) As := ⟨fun a U g mk q => q, fun U hU hW => ⟨rfl, trivial⟩⟩
/-- what throwing needs of the machine -/
def strW : List (Nat × String) := [(103, "more than 9992 packets have been sent"), (121, "a or b is not 0 to 255"), (131, "no such packet"), (154, "losses is not 0 to 2047"), (156, "wait is not 0 to 20"), (158, "no such receiver"), (163, "no such place"), (165, "the receiver is not complete"), (49, "k is not 1 to 8"), (54, "patience is not 1 to 20"), (68, "value is not 0 to 255"), (72, "something was sent"), (87, "there are 6 receivers"), (92, "many is not 1 to 16"), (94, "more than 10000 packets would have been sent")]
def ncW : List (String × String) := [("java/lang/IllegalArgumentException", "java/lang/IllegalStateException"), ("java/lang/IllegalArgumentException", "java/lang/IndexOutOfBoundsException"), ("java/lang/IllegalStateException", "java/lang/IndexOutOfBoundsException"), ("java/lang/IndexOutOfBoundsException", "java/lang/IllegalStateException")]
def cstW : List Cond := [.castable "java/lang/IllegalArgumentException" "java/lang/IllegalArgumentException", .castable "java/lang/IllegalStateException" "java/lang/IllegalStateException", .castable "java/lang/IndexOutOfBoundsException" "java/lang/IndexOutOfBoundsException", .declares (Bundle.initS "java/lang/RuntimeException"), .declares (Bundle.initS "java/lang/Exception"), .declares (Bundle.initS "java/lang/Throwable")]
def XK (b0 : Nat) (U : State) : Prop := vx_Zq Bundle.tN "UNASSIGNED_STACK" Bundle.steD (fun q => b0 ≤ q) U U.heap ∧ vx_Zq Bundle.tN "SUPPRESSED_SENTINEL" Bundle.listD (fun q => b0 ≤ q) U U.heap ∧ (∀ q ∈ strW, ∃ sa : Nat, vk_R RX3 q.1 q.2 sa U) ∧ (∀ q ∈ ncW, va_Nc q.1 q.2 U) ∧ (∀ w ∈ cstW, va_Nw w U)
theorem va_Nc_moved {C T : String} {u U : State} (hvm : u.vm.Alike U.vm) (h : va_Nc C T u) : va_Nc C T U := by
  obtain ⟨c, t, h1, h2, h3⟩ := h
  exact ⟨c, t, by rw [hvm.findClass]; exact h1, by rw [hvm.findClass]; exact h2, by rw [hvm.assignable]; exact h3⟩
theorem XK_call {b0 : Nat} {U : State} (g : JFrame) (mk : MethodId) (a : Array Value) (h : XK b0 U) : XK b0 (U.calling g mk a) := by
  obtain ⟨h1, h2, h3, h4, h5⟩ := h
  refine ⟨vx_Zq.moved (u := U) (U := U.calling g mk a) (Vm.Alike.refl U.vm) h1, vx_Zq.moved (u := U) (U := U.calling g mk a) (Vm.Alike.refl U.vm) h2, fun q hq => ?_, fun q hq => va_Nc_moved (u := U) (U := U.calling g mk a) (Vm.Alike.refl U.vm) (h4 q hq), fun w hw => ?_⟩
  · obtain ⟨sa, h⟩ := h3 q hq
    exact ⟨sa, vk_R.same rfl h⟩
  · have key : ∀ w ∈ cstW, w.onTables = true := by decide +kernel
    exact va_Nw.same (u := U) (U := U.calling g mk a) (key w hw) rfl (h5 w hw)
theorem XK_warm {b0 : Nat} {s U : State} (hW : s.WarmedH U.vm) (hH : ∀ q : Nat, q < s.heap.size → ¬ (b0 ≤ q) → U.heap[q]? = s.heap[q]?) (h : XK b0 s) : XK b0 U := by
  obtain ⟨h1, h2, h3, h4, h5⟩ := h
  refine ⟨vx_Zq.moved hW.alike (vx_Zq.kept h1 hH), vx_Zq.moved hW.alike (vx_Zq.kept h2 hH), fun q hq => ?_, fun q hq => va_Nc_moved hW.alike (h4 q hq), fun w hw => ?_⟩
  · obtain ⟨sa, h⟩ := h3 q hq
    exact ⟨sa, vk_R.warm hW h⟩
  · have key : ∀ w ∈ cstW, va_Nw w s → va_Nw w U := List.forall_mem_cons.mpr ⟨va_Nw.warmC hW, List.forall_mem_cons.mpr ⟨va_Nw.warmC hW, List.forall_mem_cons.mpr ⟨va_Nw.warmC hW, List.forall_mem_cons.mpr ⟨va_Nw.warmD hW, List.forall_mem_cons.mpr ⟨va_Nw.warmD hW, List.forall_mem_cons.mpr ⟨va_Nw.warmD hW, fun _ h => absurd h List.not_mem_nil⟩⟩⟩⟩⟩⟩
    exact key w hw (h5 w hw)
def PX (b0 : Nat) (D : va_G) (tys : List (ClassId × FieldType)) (ws : va_W) (sz : Nat) (av : List Value) : Array Value → State → Prop :=
  va_Pc av (fun U => U.heap.size = sz ∧ va_P D vwCl ws U.heap ∧ va_K D vwCl tys U ∧ va_D (fun _ => True) ws ∧ NK U ∧ XK b0 U)
theorem PX_b {b0 : Nat} {D : va_G} {tys : List (ClassId × FieldType)} {ws : va_W} {sz : Nat} {av : List Value} : FrameBlind (PX b0 D tys ws sz av) := fun a U g mk q => by
  obtain ⟨q0, q1, qP, qK, qD, qN, qX⟩ := q
  exact ⟨q0, q1, qP, va_K.moved (u := U) (U := U.calling g mk a) (Vm.Alike.refl U.vm) qK, qD, NK_call g mk a qN, XK_call g mk a qX⟩
theorem PX_s {b0 : Nat} {D : va_G} {tys : List (ClassId × FieldType)} {ws : va_W} {A : Nat → Prop} {s : State} {H : Heap} {As : List Value} (hP : va_P D vwCl ws H) (hK : va_K D vwCl tys s) (hD : va_D A ws) (hN : NK s) (hX : XK b0 s) (hH : ∀ q : Nat, q < s.heap.size → ¬ (b0 ≤ q) → H[q]? = s.heap[q]?) : PreS s H (PX b0 D tys ws H.size As) As :=
  ⟨PX_b, fun U hU hW => ⟨rfl, by rw [hU], by rw [hU]; exact hP, va_K.moved hW.alike hK, hD.weaken (fun _ _ _ _ => trivial), NK_warm hW hN, XK_warm hW (by rw [hU]; exact hH) hX⟩⟩
theorem PX_v {b0 : Nat} {D : va_G} {tys : List (ClassId × FieldType)} {ws : va_W} {A : Nat → Prop} {s : State} {H : Heap} {As : List Value} {b q0 ci : Nat} {q : vw_C} {fs : List Value} (hP : va_P D vwCl ws H) (hK : va_K D vwCl tys s) (hD : va_D A ws) (hN : NK s) (hX : XK b0 s) (hH : ∀ q : Nat, q < s.heap.size → ¬ (b0 ≤ q) → H[q]? = s.heap[q]?) (hc : vwCl[ci]? = some q) (he : ws[q0]? = some (b, .inr (ci, fs))) : PreV s H q.1 b (PX b0 D tys ws H.size (.ref b :: As)) As :=
  ⟨PX_b, va_recv hK hP hc he, (PX_s hP hK hD hN hX hH).2⟩
/-- no world, throwing -/
def P0X (b0 : Nat) (av : List Value) : Array Value → State → Prop := va_Pc av (fun U => XK b0 U)
theorem P0X_s {b0 : Nat} {s : State} {H : Heap} {As : List Value} (hX : XK b0 s) (hH : ∀ q : Nat, q < s.heap.size → ¬ (b0 ≤ q) → H[q]? = s.heap[q]?) : PreS s H (P0X b0 As) As :=
  ⟨fun a U g mk q => ⟨q.1, XK_call g mk a q.2⟩, fun U hU hW => ⟨rfl, XK_warm hW (by rw [hU]; exact hH) hX⟩⟩
/-- which exceptions a method may throw -/
abbrev XC (exc : String → Prop) : String → State → State → Prop := vx_X (fun _ : Unit => True) (fun E _ _ => exc E) (fun _ => False)

section Q3
variable {p : Program} {l : Launch} {e : Env} {R : Room} {s : State} {m : MethodId} {args : Array Value} {below : List Frame} {meth : Method} {c : Code} {H : Heap} {locs : List Loc} {cells slots : Nat} {Q : State → Prop}
variable {cc : ByteArray} {pc : Nat} {ls : Array Slot} {rest st0 : List Value} {D : va_G} {cl : List vw_C} {A A0 : Nat → Prop} {a : Array Value} {tys : List (ClassId × FieldType)} {H0 : Heap} {mc ms k1 k2 : Nat}

/-- a call that reads or throws; what is thrown goes on to the caller -/
theorem q_xv {post : Unit → Prop} {exc1 exc : String → Prop} {Qc : Array Value → State → Outcome → State → Prop} {free : Addr → Prop} (hr : vx_Run p l e R s m args below meth c s.heap [] cells slots k1 k2 (F0 m pc ls st0) rest (va_Sv post a) (XC exc1) (fun _ => False))
    (htab : ∀ x ∈ c.exceptionTable.toList, False) (hlocks : meth.locks = false) (he : ∀ E, exc1 E → exc E) (h1 : cells + k1 ≤ mc) (h2 : slots + k2 ≤ ms)
    (kk : post () → W p l e R s m args below meth c s.heap [] (cells + k1) (slots + k2) (vx_MQ below Qc (XC exc) args s mc ms free) (F0 m (pc + 3) ls rest)) : W p l e R s m args below meth c s.heap [] cells slots (vx_MQ below Qc (XC exc) args s mc ms free) (F0 m pc ls st0) := by
  intro T hT X
  rcases hr T hT X with ⟨v, st₀, t, T', L, h0, X', hL, e1, e2, ⟨hv, hp, hh⟩, st⟩ | ⟨q, st₀, t, T', L, E, ce, h0, X', hL, e1, e2, ⟨u, hp, hb, hF⟩, hce, hcv, hcl, st⟩
  · cases hv
    obtain ⟨t2, a1, b1⟩ := kk hp T' (by rw [e1, hh, h0]) (Stand.forget X' (fun q h => (hL q h).elim))
    exact ⟨t2, st t2 a1, b1⟩
  · have hk : ∀ q : Nat, q < s.heap.size → ¬ (fun _ => False : Nat → Prop) q → T'.heap[q]? = s.heap[q]? := fun q hq _ => by
      rw [e1, ← h0]
      exact hF.2 q (by rw [h0]; exact hq) (fun h => h)
    have hz : s.heap.size ≤ T'.heap.size := by rw [e1, ← h0]; exact hF.1
    obtain ⟨t2, a1, b1⟩ := (vx_out (Qc := Qc) (XC := XC exc) (free := free) (rest := rest) (pc := pc) (ls := ls) (fun x hx => (htab x hx).elim) hlocks (by rw [e1]; exact hce) hcv hcl (fun t9 ht9 _ => ⟨(), trivial, he E hb, by rw [ht9]; exact hz, fun q hq hn => by rw [ht9]; exact hk q hq hn⟩) (fun z hz => by cases hz) h1 h2) T' rfl (Stand.forget X' (fun q h => (hL q h).elim))
    exact ⟨t2, st.trans a1, b1⟩
/-- .. that answers an int, and writes nothing -/
theorem q_xi {post : Int32 → Prop} {exc1 exc : String → Prop} {Qc : Array Value → State → Outcome → State → Prop} {free : Addr → Prop} (hr : vx_Run p l e R s m args below meth c s.heap [] cells slots k1 k2 (F0 m pc ls st0) rest (vp_Si post a) (XC exc1) (fun _ => False))
    (htab : ∀ x ∈ c.exceptionTable.toList, False) (hlocks : meth.locks = false) (he : ∀ E, exc1 E → exc E) (h1 : cells + k1 ≤ mc) (h2 : slots + k2 ≤ ms)
    (kk : ∀ r, post r → W p l e R s m args below meth c s.heap [] (cells + k1) (slots + k2) (vx_MQ below Qc (XC exc) args s mc ms free) (F0 m (pc + 3) ls (.int r :: rest))) : W p l e R s m args below meth c s.heap [] cells slots (vx_MQ below Qc (XC exc) args s mc ms free) (F0 m pc ls st0) := by
  intro T hT X
  rcases hr T hT X with ⟨v, st₀, t, T', L, h0, X', hL, e1, e2, ⟨r, hv, hp, hh⟩, st⟩ | ⟨q, st₀, t, T', L, E, ce, h0, X', hL, e1, e2, ⟨u, hp, hb, hF⟩, hce, hcv, hcl, st⟩
  · cases hv
    obtain ⟨t2, a1, b1⟩ := kk r hp T' (by rw [e1, hh, h0]) (Stand.forget X' (fun q h => (hL q h).elim))
    exact ⟨t2, st t2 a1, b1⟩
  · have hk : ∀ q : Nat, q < s.heap.size → ¬ (fun _ => False : Nat → Prop) q → T'.heap[q]? = s.heap[q]? := fun q hq _ => by
      rw [e1, ← h0]
      exact hF.2 q (by rw [h0]; exact hq) (fun h => h)
    have hz : s.heap.size ≤ T'.heap.size := by rw [e1, ← h0]; exact hF.1
    obtain ⟨t2, a1, b1⟩ := (vx_out (Qc := Qc) (XC := XC exc) (free := free) (rest := rest) (pc := pc) (ls := ls) (fun x hx => (htab x hx).elim) hlocks (by rw [e1]; exact hce) hcv hcl (fun t9 ht9 _ => ⟨(), trivial, he E hb, by rw [ht9]; exact hz, fun q hq hn => by rw [ht9]; exact hk q hq hn⟩) (fun z hz => by cases hz) h1 h2) T' rfl (Stand.forget X' (fun q h => (hL q h).elim))
    exact ⟨t2, st.trans a1, b1⟩
theorem cstW_on : ∀ w ∈ cstW, w.onTables = true := by decide +kernel
theorem vx_fit0 : ∀ n ∈ ["java/lang/RuntimeException", "java/lang/Exception"], Bundle.fit n = true := by decide +kernel
/-- new E("text"), thrown out of this method -/
theorem q_throw (hexec : p.tables.exec = Jvm.exec) (hb : c.code = cc) (hl : l.stackTraces = false) {cls text : String} {ik is ic b0 : Nat} {exc : String → Prop} {Qc : Array Value → State → Outcome → State → Prop} {free : Addr → Prop} {Ts : List Cond}
    (hown : s.vm.findClass RX3 = some m.cls) (hcls : Bundle.fit cls = true) (hts : ∀ w ∈ Ts, w.before args s = true)
    (hk : Cond.classLink RX3 ik cls ∈ Ts) (hini : Cond.initialized cls ∈ Ts) (hX : XK b0 s) (hstr : (is, text) ∈ strW)
    (hat : ∀ w ∈ (vx_atS RX3 ic cls ["java/lang/RuntimeException", "java/lang/Exception"]).filter goodWord, w ∈ Ts) (hat2 : ∀ w ∈ (vx_atS RX3 ic cls ["java/lang/RuntimeException", "java/lang/Exception"]).filter (fun w => !goodWord w), w ∈ cstW)
    (hgood : ∀ w ∈ Cond.classLink RX3 ik cls :: Cond.initialized cls :: vx_atS RX3 ic cls ["java/lang/RuntimeException", "java/lang/Exception"], vx_ot w = true)
    (hsize : ls.size = c.maxLocals)
    (d0 : decode cc pc = .ok (.new ik, 3)) (d3 : decode cc (pc + 3) = .ok (.dup, 1)) (d4 : decode cc (pc + 4) = .ok (.ldc is, 2)) (d6 : decode cc (pc + 6) = .ok (.invokespecial ic, 3)) (d9 : decode cc (pc + 9) = .ok (.athrow, 1))
    (htab : ∀ x ∈ c.exceptionTable.toList, False) (hRframes : 5 < R.frames) (hRlocals : (rest.map fun v => v.category).sum + 82 ≤ R.locals) (hRcells : cells + 1 ≤ R.cells) (hRslots : slots + 6 ≤ R.slots) (hlocks : meth.locks = false)
    (he : exc cls) (hc : cells + 1 ≤ mc) (hs : slots + 6 ≤ ms) : W p l e R s m args below meth c s.heap [] cells slots (vx_MQ below Qc (XC exc) args s mc ms free) (F0 m pc ls rest) := by
  obtain ⟨hU, hN, hst, -, hcw⟩ := hX
  obtain ⟨sa, hsa⟩ := hst _ hstr
  exact vx_throwS (names := ["java/lang/RuntimeException", "java/lang/Exception"]) hexec hb hl hown hcls vx_fit0 (hts _ hk) (hts _ hini) hsa (vx_hat (fun w hw => hts w (hat w hw)) (B := cstW) hat2 (fun w hw => va_Nw.use (cstW_on w hw) (hcw w hw))) hgood hU hN va_S.rf hsize d0 d3 d4 d6 d9 (fun x hx => (htab x hx).elim) hRframes hRlocals hRcells hRslots hlocks (fun t _ hz hk2 => ⟨(), trivial, he, hz, fun q hq _ => hk2 q hq⟩) (fun z hz => by cases hz) hc hs
end Q3
