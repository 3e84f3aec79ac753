
abbrev wK (cI cQ : ClassId) (ad : Nat → Nat) (ck : Nat) (cp cv : Nat → B8) (ek : Nat) (em : Nat → Nat → B8) : va_W := [(ad 9, .inr (1, [.ref (ad 10), .ref (ad 11), .int (nI ck)])), (ad 10, .inl (cI, 8, .inl (bF cp))), (ad 11, .inl (cI, 8, .inl (bF cv))),
  (ad 12, .inr (0, [.ref (ad 13), .int (nI ek)])), (ad 13, .inl (cQ, 8, .inr (.inr (.inr (.inr (fun i => if i < 8 then some (ad (14 + i)) else none))))))] ++ eqR cI (fun i => ad (14 + i)) em
section JS
variable {D : va_G} {cl : List vw_C} {H : Heap} {A : Nat → Prop} {a b k w w' : va_W} {x : Nat × va_E}
theorem jP_of (h : va_P D cl w H) (hm : ∀ x ∈ w', x ∈ w) : va_P D cl w' H := fun k q hk => by
  obtain ⟨i, hi⟩ := List.getElem?_of_mem (hm q (List.mem_of_getElem? hk))
  exact h i q hi
theorem jP_l (h : va_P D cl (a ++ b) H) : va_P D cl a H := jP_of h (fun x hx => List.mem_append_left _ hx)
theorem jP_r (h : va_P D cl (a ++ b) H) : va_P D cl b H := jP_of h (fun x hx => List.mem_append_right _ hx)
theorem jP_t (h : va_P D cl (x :: a) H) : va_P D cl a H := jP_of h (fun y hy => List.mem_cons_of_mem _ hy)
theorem jD_l (h : va_D A (a ++ b)) : va_D A a := ⟨fun i j p q hi hj e => h.1 i j p q (by rw [List.getElem?_append_left (List.getElem?_eq_some_iff.mp hi).1]; exact hi) (by rw [List.getElem?_append_left (List.getElem?_eq_some_iff.mp hj).1]; exact hj) e, fun k q hk => h.2 k q (by rw [List.getElem?_append_left (List.getElem?_eq_some_iff.mp hk).1]; exact hk)⟩
theorem jD_r (h : va_D A (a ++ b)) : va_D A b := ⟨fun i j p q hi hj e => by
  have := h.1 (a.length + i) (a.length + j) p q (by rw [List.getElem?_append_right (by omega), Nat.add_sub_cancel_left]; exact hi) (by rw [List.getElem?_append_right (by omega), Nat.add_sub_cancel_left]; exact hj) e
  omega, fun k q hk => h.2 (a.length + k) q (by rw [List.getElem?_append_right (by omega), Nat.add_sub_cancel_left]; exact hk)⟩
theorem jD_t (h : va_D A (x :: a)) : va_D A a := jD_r (a := [x]) h
theorem jP_w (h : va_P D cl (a ++ b) H) : va_P D cl (b ++ a) H := jP_of h (fun x hx => (List.mem_append.mp hx).elim (fun h => List.mem_append_right _ h) (fun h => List.mem_append_left _ h))
theorem jD_w (h : va_D A (a ++ b)) : va_D A (b ++ a) := va_D.swap (a := []) h
theorem j_eq (x : Nat × va_E) (a k b : va_W) : (x :: a) ++ (k ++ b) = (x :: (a ++ k)) ++ b := by simp only [List.cons_append, List.append_assoc]
theorem jP_k (h : va_P D cl ((x :: a) ++ (k ++ b)) H) : va_P D cl ((x :: (a ++ k)) ++ b) H := by rw [← j_eq]; exact h
theorem jP_K (h : va_P D cl ((x :: (a ++ k)) ++ b) H) : va_P D cl ((x :: a) ++ (k ++ b)) H := by rw [j_eq]; exact h
theorem jD_k (h : va_D A ((x :: a) ++ (k ++ b))) : va_D A ((x :: (a ++ k)) ++ b) := by rw [← j_eq]; exact h
theorem jD_K (h : va_D A ((x :: (a ++ k)) ++ b)) : va_D A ((x :: a) ++ (k ++ b)) := by rw [j_eq]; exact h
theorem j_range (w : va_W) : (List.range w.length).map (fun i => w[i]?) = w.map some := by
  apply List.ext_getElem?
  intro i
  rw [List.getElem?_map, List.getElem?_map]
  by_cases h : i < w.length
  · rw [List.getElem?_range h, List.getElem?_eq_getElem h]
    simp [h]
  · rw [List.getElem?_eq_none (by rw [List.length_range]; omega), List.getElem?_eq_none (by omega)]
    rfl
end JS
section JC
variable {p : Program} {l : Launch} {e : Env} {R : Room} {s : State} {m : MethodId} {args : Array Value} {below : List Frame} {meth : Method} {c : Code} {H : Heap} {locs : List Loc} {cells slots : Nat} {Q : State → Prop}
variable {cc : ByteArray} {pc : Nat} {ls : Array Slot} {rest st0 : List Value} {D : va_G} {cl : List vw_C} {A0 : Nat → Prop} {a : Array Value} {H0 : Heap} {mc ms : Nat}
/-- a call whose cells stand first in the world -/
theorem j_ci {S : Type} {post : Int32 → S → Prop} {wc pl : va_W} {w1 : S → va_W} (hr : va_Run p l e R s m args below meth c H locs cells slots mc ms (F0 m pc ls st0) rest (va_Qi post (fun u t => va_P D cl (w1 u) t.heap ∧ va_D (va_A wc H.size) (w1 u)) (va_A wc H.size) a) (va_A wc H.size))
    (hP : va_P D cl (wc ++ pl) H) (hD : va_D A0 (wc ++ pl)) (hS : va_S A0 H0 H locs) (hA : ∀ q, H0.size ≤ q → A0 q)
    (kk : ∀ (r : Int32) (u : S) (H1 : Heap) (locs1 : List Loc), post r u → va_P D cl (w1 u ++ pl) H1 → va_D A0 (w1 u ++ pl) → va_S A0 H0 H1 locs1 → W p l e R s m args below meth c H1 locs1 (cells + mc) (slots + ms) Q (F0 m (pc + 3) ls (.int r :: rest))) : W p l e R s m args below meth c H locs cells slots Q (F0 m pc ls st0) := by
  have hF : ∀ q, va_A wc H.size q → A0 q := fun q h => by
    rcases h with ⟨k, e9, h⟩ | h
    · exact hD.2 k (q, e9) (by rw [List.getElem?_append_left (List.getElem?_eq_some_iff.mp h).1]; exact h)
    · exact hA q (Nat.le_trans hS.1 h)
  refine va_calli hr hS (fun q _ h => hF q h) hF (fun r u t H1 locs1 ht hvm hw hB hz1 hk1 hS1 => ?_)
  obtain ⟨hP1, hD1⟩ := hB
  rw [ht] at hP1
  obtain ⟨hP2, hD2⟩ := va_joinQ (X := wc) (cx := wc) (wr := []) hP hD (List.range wc.length) [] (j_range wc) rfl rfl (fun i h => by cases h) hk1 hF hP1 hD1
  exact kk r u H1 locs1 hw hP2 hD2 hS1
end JC

theorem q_topl {p : Program} {l : Launch} {e : Env} {R : Room} {s : State} {m : MethodId} {args : Array Value} {below : List Frame} {meth : Method} {c : Code} {H : Heap} {locs : List Loc} {cells slots : Nat} {Q : State → Prop} {pc : Nat} {ls : Array Slot} {rest : List Value} {x y : Int64} (h : x = y) (k : W p l e R s m args below meth c H locs cells slots Q (F0 m pc ls (.long y :: rest))) : W p l e R s m args below meth c H locs cells slots Q (F0 m pc ls (.long x :: rest)) := by
  subst h
  exact k
/-- what holds of the two states, between the calls -/
def LI (bk pat sent rc : Nat) (los wai set bad gon : Nat → Nat) (bp bv dat : Nat → B8) : Prop :=
  rc ≤ 6 ∧ (∀ r, r < 6 → los r ≤ 2047) ∧ (∀ r, r < 6 → wai r ≤ 20) ∧ (∀ r, r < 6 → set r < 65536) ∧ (∀ r, r < 6 → bad r ≤ 20) ∧ (∀ r, r < 6 → gon r ≤ 1) ∧ bk ≤ 8 ∧ pat ≤ 20 ∧ sent ≤ 10000 ∧ (∀ i, i < bk → bp i = BitVec.ofNat 8 i) ∧ (∀ i, i < bk → bv i = dat i) ∧ (∀ r, r < rc → gon r = 0 → bad r < pat) ∧ 1 ≤ pat
theorem un_le {f : Nat → Nat} {j y b : Nat} (h : ∀ r, r < 6 → f r ≤ b) (hy : y ≤ b) : ∀ r, r < 6 → un f j y r ≤ b := fun r hr => by
  unfold un
  split
  · exact hy
  · exact h r hr
theorem LI_0 : LI 4 3 0 0 (fun _ => 0) (fun _ => 0) (fun _ => 0) (fun _ => 0) (fun _ => 0) (idp 4 (fun _ => 0)) (zrv 4 (fun _ => 0)) (fun _ => 0) :=
  ⟨by decide, fun _ _ => Nat.zero_le _, fun _ _ => Nat.zero_le _, fun _ _ => by show 0 < 65536; decide, fun _ _ => Nat.zero_le _, fun _ _ => Nat.zero_le _, by decide, by decide, by decide, fun i hi => by simp [idp, hi], fun i hi => by simp [zrv, hi], fun r hr => absurd hr (Nat.not_lt_zero _), by decide⟩
section LIS
variable {bk pat sent rc : Nat} {los wai set bad gon : Nat → Nat} {bp bv dat : Nat → B8} {x0 x1 : Int32}
theorem LI_begin (h : LI bk pat sent rc los wai set bad gon bp bv dat) (hc : (1 ≤ x0.toInt ∧ x0.toInt ≤ 8) ∧ (1 ≤ x1.toInt ∧ x1.toInt ≤ 20)) : LI (tn x0) (tn x1) 0 0 los wai set bad gon (idp (tn x0) bp) (zrv (tn x0) bv) (zrv 8 dat) := by
  obtain ⟨hrc, hlos, hwai, hset, hbad, hgon, hbk, hpa, hse, hbp, hbv, hlv, hp1⟩ := h
  have e0 := tn_i (x := x0) (by omega)
  have e1 := tn_i (x := x1) (by omega)
  exact ⟨by omega, hlos, hwai, hset, hbad, hgon, by omega, by omega, by omega, fun i hi => by simp [idp, hi], fun i hi => by simp [zrv, hi, show i < 8 by omega], fun r hr => absurd hr (Nat.not_lt_zero _), by omega⟩
theorem LI_setDatum (h : LI bk pat sent rc los wai set bad gon bp bv dat) (j : Nat) (y : B8) : LI bk pat sent rc los wai set bad gon bp (ub bv j y) (ub dat j y) := by
  obtain ⟨hrc, hlos, hwai, hset, hbad, hgon, hbk, hpa, hse, hbp, hbv, hlv, hp1⟩ := h
  exact ⟨hrc, hlos, hwai, hset, hbad, hgon, hbk, hpa, hse, hbp, fun i hi => by simp only [ub, hbv i hi], hlv, hp1⟩
theorem LI_join (h : LI bk pat sent rc los wai set bad gon bp bv dat) (hc : (0 ≤ x0.toInt ∧ x0.toInt ≤ 2047) ∧ (0 ≤ x1.toInt ∧ x1.toInt ≤ 20) ∧ rc < 6) : LI bk pat sent (rc + 1) (un los rc (tn x0)) (un wai rc (tn x1)) (un set rc 0) (un bad rc 0) (un gon rc 0) bp bv dat := by
  obtain ⟨hrc, hlos, hwai, hset, hbad, hgon, hbk, hpa, hse, hbp, hbv, hlv, hp1⟩ := h
  have e0 := tn_i (x := x0) (by omega)
  have e1 := tn_i (x := x1) (by omega)
  refine ⟨by omega, un_le hlos (by omega), un_le hwai (by omega), fun r hr => ?_, un_le hbad (by omega), un_le hgon (by omega), hbk, hpa, hse, hbp, hbv, fun r hr hg => ?_, hp1⟩
  · have := un_le (f := set) (j := rc) (y := 0) (b := 65535) (fun r hr => by have := hset r hr; omega) (by omega) r hr
    omega
  · unfold un at hg ⊢
    split
    · omega
    · rename_i hne
      rw [if_neg hne] at hg
      exact hlv r (by omega) hg
theorem LI_setLosses (h : LI bk pat sent rc los wai set bad gon bp bv dat) (j : Nat) (hc : (0 ≤ x1.toInt ∧ x1.toInt ≤ 2047)) : LI bk pat sent rc (un los j (tn x1)) wai set bad gon bp bv dat := by
  obtain ⟨hrc, hlos, hwai, hset, hbad, hgon, hbk, hpa, hse, hbp, hbv, hlv, hp1⟩ := h
  have e1 := tn_i (x := x1) (by omega)
  exact ⟨hrc, un_le hlos (by omega), hwai, hset, hbad, hgon, hbk, hpa, hse, hbp, hbv, hlv, hp1⟩
theorem LI_setWait (h : LI bk pat sent rc los wai set bad gon bp bv dat) (j : Nat) (hc : (0 ≤ x1.toInt ∧ x1.toInt ≤ 20)) : LI bk pat sent rc los (un wai j (tn x1)) set bad gon bp bv dat := by
  obtain ⟨hrc, hlos, hwai, hset, hbad, hgon, hbk, hpa, hse, hbp, hbv, hlv, hp1⟩ := h
  have e1 := tn_i (x := x1) (by omega)
  exact ⟨hrc, hlos, un_le hwai (by omega), hset, hbad, hgon, hbk, hpa, hse, hbp, hbv, hlv, hp1⟩
theorem LI_send (h : LI bk pat sent rc los wai set bad gon bp bv dat) (hc : (1 ≤ x0.toInt ∧ x0.toInt ≤ 16) ∧ (sent : Int) + x0.toInt ≤ 10000) : LI bk pat (sent + tn x0) rc los wai (sndM rc sent los gon set (tn x0)) bad gon bp bv dat := by
  obtain ⟨hrc, hlos, hwai, hset, hbad, hgon, hbk, hpa, hse, hbp, hbv, hlv, hp1⟩ := h
  have e0 := tn_i (x := x0) (by omega)
  exact ⟨hrc, hlos, hwai, sndM_lt hset _, hbad, hgon, hbk, hpa, by omega, hbp, hbv, hlv, hp1⟩
theorem LI_round (h : LI bk pat sent rc los wai set bad gon bp bv dat) (hc : sent ≤ 9992) : LI bk pat (sent + rnH (ndf bk set gon) wai rc 21) rc los wai (sndM rc sent los gon set (rnH (ndf bk set gon) wai rc 21)) (bdB rc bk (sndM rc sent los gon set (rnH (ndf bk set gon) wai rc 21)) gon bad) (bdG rc bk pat (sndM rc sent los gon set (rnH (ndf bk set gon) wai rc 21)) gon bad) bp bv dat := by
  obtain ⟨hrc, hlos, hwai, hset, hbad, hgon, hbk, hpa, hse, hbp, hbv, hlv, hp1⟩ := h
  have hn : rnH (ndf bk set gon) wai rc 21 ≤ 8 := rnH_le (fun r hr => by unfold ndf; split <;> omega) 21
  have hs2 := sndM_lt (rc := rc) (sent := sent) (los := los) (gon := gon) hset (rnH (ndf bk set gon) wai rc 21)
  generalize sndM rc sent los gon set (rnH (ndf bk set gon) wai rc 21) = S2 at hs2 ⊢
  refine ⟨hrc, hlos, hwai, hs2, fun r hr => ?_, bdG_le hgon, hbk, hpa, by omega, hbp, hbv, fun r hr hg => ?_, hp1⟩
  · have hb9 := hbad r hr
    unfold bdB
    split
    · rename_i h9
      have := hlv r h9.1 h9.2.1
      omega
    · exact hb9
  · unfold bdG at hg
    unfold bdB
    by_cases h9 : r < rc ∧ gon r = 0 ∧ 0 < bk - pc (S2 r)
    · rw [if_pos h9] at hg ⊢
      split at hg
      · cases hg
      · omega
    · rw [if_neg h9] at hg ⊢
      exact hlv r hr hg
end LIS
/-- what the law has to come to, at pc, from every state -/
abbrev LNX (p : Program) (l : Launch) (e : Env) (s : State) (m : MethodId) (below : List Frame) (meth : Method) (c : Code) (b : Nat) (D : va_G) (cI cZ cQ cL : ClassId) (Q : State → Prop) (q : Nat) (ad am : Nat → Nat) (i cn sn pc : Nat) : Prop :=
  ∀ (f : Nat → Int64) (pat : Nat) (sent : Nat) (rep : Nat) (kept : Nat) (rc : Nat) (los : Nat → Nat) (wai : Nat → Nat) (set : Nat → Nat) (bad : Nat → Nat) (gon : Nat → Nat) (bk : Nat) (bp : Nat → B8) (bv : Nat → B8) (ck : Nat) (cp : Nat → B8) (cv : Nat → B8) (ek : Nat) (em : Nat → Nat → B8) (dat : Nat → B8) (thr : Nat) (na : Nat → Nat), LI bk pat sent rc los wai set bad gon bp bv dat → ∀ (H : Heap) (locs : List Loc), va_P D vwCl ((wL cL q f (wA cI cZ ad pat sent rep kept rc los wai set bad gon bk bp bv)) ++ ((wK cI cQ ad ck cp cv ek em) ++ (wM cI cZ am bk pat dat sent rc los wai set bad gon rep kept thr na))) H → va_D (fun q : Nat => s.heap.size ≤ q) ((wL cL q f (wA cI cZ ad pat sent rep kept rc los wai set bad gon bk bp bv)) ++ ((wK cI cQ ad ck cp cv ek em) ++ (wM cI cZ am bk pat dat sent rc los wai set bad gon rep kept thr na))) → va_S (fun q : Nat => s.heap.size ≤ q) s.heap H locs → ∀ (ls : Array Slot), lv_has ls 7 [(0, .ref b), (1, .ref (ad 0)), (2, .ref (am 0)), (3, .ref q), (4, .int (nI (i)))] → W p l e room_1 s m #[Value.ref b] below meth c H locs cn sn Q (F0 m pc ls [])
theorem and31 (x : Int32) : ∃ n : Nat, n < 32 ∧ x &&& nI 31 = nI n := by
  refine ⟨x.toBitVec.toNat &&& 31, ?_, ?_⟩
  · have := @Nat.and_le_right x.toBitVec.toNat 31
    omega
  · refine i_inj ?_
    show x.toBitVec &&& BitVec.ofNat 32 31 = BitVec.ofNat 32 (x.toBitVec.toNat &&& 31)
    apply BitVec.eq_of_toNat_eq
    simp [BitVec.toNat_and, BitVec.toNat_ofNat, Nat.and_mod_two_pow]
