/-- what holds of the two states, between the calls -/
def LI (bk pat sent rc : Nat) (los wai set bad gon : Nat → Nat) (bp bv dat : Nat → B8) : Prop :=
  rc ≤ 6 ∧ (∀ r, r < 6 → los r ≤ 2047) ∧ (∀ r, r < 6 → wai r ≤ 20) ∧ (∀ r, r < 6 → set r < 65536) ∧ (∀ r, r < 6 → bad r ≤ 20) ∧ (∀ r, r < 6 → gon r ≤ 1) ∧ bk ≤ 8 ∧ pat ≤ 20 ∧ sent ≤ 10000 ∧ (∀ i, i < bk → bp i = BitVec.ofNat 8 i) ∧ (∀ i, i < bk → bv i = dat i) ∧ (∀ r, r < rc → gon r = 0 → bad r < pat) ∧ 1 ≤ pat
theorem un_le {f : Nat → Nat} {j y b : Nat} (h : ∀ r, r < 6 → f r ≤ b) (hy : y ≤ b) : ∀ r, r < 6 → un f j y r ≤ b := fun r hr => by
  unfold un
  split
  · exact hy
  · exact h r hr
theorem LI_0 : LI 4 3 0 0 (fun _ => 0) (fun _ => 0) (fun _ => 0) (fun _ => 0) (fun _ => 0) (idp 4 (fun _ => 0)) (zrv 4 (fun _ => 0)) (fun _ => 0) :=
  ⟨by decide, fun _ _ => Nat.zero_le _, fun _ _ => Nat.zero_le _, fun _ _ => by show 0 < 65536; decide, fun _ _ => Nat.zero_le _, fun _ _ => Nat.zero_le _, by decide, by decide, by decide, fun i hi => by simp [idp, hi], fun i hi => by simp [zrv, hi], fun r hr => absurd hr (Nat.not_lt_zero _), by decide⟩
section LIS
variable {bk pat sent rc : Nat} {los wai set bad gon : Nat → Nat} {bp bv dat : Nat → B8} {x0 x1 : Int32}
theorem LI_begin (h : LI bk pat sent rc los wai set bad gon bp bv dat) (hc : (1 ≤ x0.toInt ∧ x0.toInt ≤ 8) ∧ (1 ≤ x1.toInt ∧ x1.toInt ≤ 20)) : LI (tn x0) (tn x1) 0 0 los wai set bad gon (idp (tn x0) bp) (zrv (tn x0) bv) (zrv 8 dat) := by
  obtain ⟨hrc, hlos, hwai, hset, hbad, hgon, hbk, hpa, hse, hbp, hbv, hlv, hp1⟩ := h
  have e0 := tn_i (x := x0) (by omega)
  have e1 := tn_i (x := x1) (by omega)
  exact ⟨by omega, hlos, hwai, hset, hbad, hgon, by omega, by omega, by omega, fun i hi => by simp [idp, hi], fun i hi => by simp [zrv, hi, show i < 8 by omega], fun r hr => absurd hr (Nat.not_lt_zero _), by omega⟩
theorem LI_setDatum (h : LI bk pat sent rc los wai set bad gon bp bv dat) (j : Nat) (y : B8) : LI bk pat sent rc los wai set bad gon bp (ub bv j y) (ub dat j y) := by
  obtain ⟨hrc, hlos, hwai, hset, hbad, hgon, hbk, hpa, hse, hbp, hbv, hlv, hp1⟩ := h
  exact ⟨hrc, hlos, hwai, hset, hbad, hgon, hbk, hpa, hse, hbp, fun i hi => by simp only [ub, hbv i hi], hlv, hp1⟩
theorem LI_join (h : LI bk pat sent rc los wai set bad gon bp bv dat) (hc : (0 ≤ x0.toInt ∧ x0.toInt ≤ 2047) ∧ (0 ≤ x1.toInt ∧ x1.toInt ≤ 20) ∧ rc < 6) : LI bk pat sent (rc + 1) (un los rc (tn x0)) (un wai rc (tn x1)) (un set rc 0) (un bad rc 0) (un gon rc 0) bp bv dat := by
  obtain ⟨hrc, hlos, hwai, hset, hbad, hgon, hbk, hpa, hse, hbp, hbv, hlv, hp1⟩ := h
  have e0 := tn_i (x := x0) (by omega)
  have e1 := tn_i (x := x1) (by omega)
  refine ⟨by omega, un_le hlos (by omega), un_le hwai (by omega), fun r hr => ?_, un_le hbad (by omega), un_le hgon (by omega), hbk, hpa, hse, hbp, hbv, fun r hr hg => ?_, hp1⟩
  · have := un_le (f := set) (j := rc) (y := 0) (b := 65535) (fun r hr => by have := hset r hr; omega) (by omega) r hr
    omega
  · unfold un at hg ⊢
    split
    · omega
    · rename_i hne
      rw [if_neg hne] at hg
      exact hlv r (by omega) hg
theorem LI_setLosses (h : LI bk pat sent rc los wai set bad gon bp bv dat) (j : Nat) (hc : (0 ≤ x1.toInt ∧ x1.toInt ≤ 2047)) : LI bk pat sent rc (un los j (tn x1)) wai set bad gon bp bv dat := by
  obtain ⟨hrc, hlos, hwai, hset, hbad, hgon, hbk, hpa, hse, hbp, hbv, hlv, hp1⟩ := h
  have e1 := tn_i (x := x1) (by omega)
  exact ⟨hrc, un_le hlos (by omega), hwai, hset, hbad, hgon, hbk, hpa, hse, hbp, hbv, hlv, hp1⟩
theorem LI_setWait (h : LI bk pat sent rc los wai set bad gon bp bv dat) (j : Nat) (hc : (0 ≤ x1.toInt ∧ x1.toInt ≤ 20)) : LI bk pat sent rc los (un wai j (tn x1)) set bad gon bp bv dat := by
  obtain ⟨hrc, hlos, hwai, hset, hbad, hgon, hbk, hpa, hse, hbp, hbv, hlv, hp1⟩ := h
  have e1 := tn_i (x := x1) (by omega)
  exact ⟨hrc, hlos, un_le hwai (by omega), hset, hbad, hgon, hbk, hpa, hse, hbp, hbv, hlv, hp1⟩
theorem LI_send (h : LI bk pat sent rc los wai set bad gon bp bv dat) (hc : (1 ≤ x0.toInt ∧ x0.toInt ≤ 16) ∧ (sent : Int) + x0.toInt ≤ 10000) : LI bk pat (sent + tn x0) rc los wai (sndM rc sent los gon set (tn x0)) bad gon bp bv dat := by
  obtain ⟨hrc, hlos, hwai, hset, hbad, hgon, hbk, hpa, hse, hbp, hbv, hlv, hp1⟩ := h
  have e0 := tn_i (x := x0) (by omega)
  exact ⟨hrc, hlos, hwai, sndM_lt hset _, hbad, hgon, hbk, hpa, by omega, hbp, hbv, hlv, hp1⟩
theorem LI_round (h : LI bk pat sent rc los wai set bad gon bp bv dat) (hc : sent ≤ 9992) : LI bk pat (sent + rnH (ndf bk set gon) wai rc 21) rc los wai (sndM rc sent los gon set (rnH (ndf bk set gon) wai rc 21)) (bdB rc bk (sndM rc sent los gon set (rnH (ndf bk set gon) wai rc 21)) gon bad) (bdG rc bk pat (sndM rc sent los gon set (rnH (ndf bk set gon) wai rc 21)) gon bad) bp bv dat := by
  obtain ⟨hrc, hlos, hwai, hset, hbad, hgon, hbk, hpa, hse, hbp, hbv, hlv, hp1⟩ := h
  have hn : rnH (ndf bk set gon) wai rc 21 ≤ 8 := rnH_le (fun r hr => by unfold ndf; split <;> omega) 21
  have hs2 := sndM_lt (rc := rc) (sent := sent) (los := los) (gon := gon) hset (rnH (ndf bk set gon) wai rc 21)
  generalize sndM rc sent los gon set (rnH (ndf bk set gon) wai rc 21) = S2 at hs2 ⊢
  refine ⟨hrc, hlos, hwai, hs2, fun r hr => ?_, bdG_le hgon, hbk, hpa, by omega, hbp, hbv, fun r hr hg => ?_, hp1⟩
  · have hb9 := hbad r hr
    unfold bdB
    split
    · rename_i h9
      have := hlv r h9.1 h9.2.1
      omega
    · exact hb9
  · unfold bdG at hg
    unfold bdB
    by_cases h9 : r < rc ∧ gon r = 0 ∧ 0 < bk - pc (S2 r)
    · rw [if_pos h9] at hg ⊢
      split at hg
      · cases hg
      · omega
    · rw [if_neg h9] at hg ⊢
      exact hlv r hr hg
end LIS
/-- .. with what the law's own sender holds; j deeds are done at the most -/
def LJ (j : Nat) (bk : Nat) (pat : Nat) (sent : Nat) (rep : Nat) (kept : Nat) (rc : Nat) (los : Nat → Nat) (wai : Nat → Nat) (set : Nat → Nat) (bad : Nat → Nat) (gon : Nat → Nat) (bp : Nat → B8) (bv : Nat → B8) (dat : Nat → B8) : Prop := LI bk pat sent rc los wai set bad gon bp bv dat ∧ 1 ≤ bk ∧ sent ≤ 16 * j ∧ rep ≤ 6 * j ∧ kept ≤ 6 * j
section LJS
variable {j : Nat} {bk : Nat} {pat : Nat} {sent : Nat} {rep : Nat} {kept : Nat} {rc : Nat} {los : Nat → Nat} {wai : Nat → Nat} {set : Nat → Nat} {bad : Nat → Nat} {gon : Nat → Nat} {bp : Nat → B8} {bv : Nat → B8} {dat : Nat → B8}
theorem LJ_0 : LJ 0 4 3 0 0 0 0 (fun _ => 0) (fun _ => 0) (fun _ => 0) (fun _ => 0) (fun _ => 0) (idp 4 (fun _ => 0)) (zrv 4 (fun _ => 0)) (fun _ => 0) := ⟨LI_0, by decide, Nat.zero_le _, Nat.zero_le _, Nat.zero_le _⟩
theorem LJ_same (h : LJ j bk pat sent rep kept rc los wai set bad gon bp bv dat) : LJ (j + 1) bk pat sent rep kept rc los wai set bad gon bp bv dat := ⟨h.1, h.2.1, by have := h.2.2.1; omega, by have := h.2.2.2.1; omega, by have := h.2.2.2.2; omega⟩
theorem LJ_begin (h : LJ j bk pat sent rep kept rc los wai set bad gon bp bv dat) {K P : Nat} (hK : 1 ≤ K ∧ K ≤ 8) (hP : 1 ≤ P ∧ P ≤ 20) : LJ (j + 1) K P 0 0 0 0 los wai set bad gon (idp K bp) (zrv K bv) (zrv 8 dat) := by
  have t0 : tn (nI K) = K := tn_nI (by omega)
  have t1 : tn (nI P) = P := tn_nI (by omega)
  have h1 := LI_begin (x0 := nI K) (x1 := nI P) h.1 ⟨by rw [nI_toInt (by omega)]; omega, by rw [nI_toInt (by omega)]; omega⟩
  rw [t0, t1] at h1
  exact ⟨h1, hK.1, Nat.zero_le _, Nat.zero_le _, Nat.zero_le _⟩
theorem LJ_setDatum (h : LJ j bk pat sent rep kept rc los wai set bad gon bp bv dat) (q : Nat) (y : B8) : LJ (j + 1) bk pat sent rep kept rc los wai set bad gon bp (ub bv q y) (ub dat q y) := ⟨LI_setDatum h.1 q y, h.2.1, by have := h.2.2.1; omega, by have := h.2.2.2.1; omega, by have := h.2.2.2.2; omega⟩
theorem LJ_join (h : LJ j bk pat sent rep kept rc los wai set bad gon bp bv dat) {lo w : Nat} (hl : lo ≤ 2047) (hw : w ≤ 20) (hr : rc < 6) : LJ (j + 1) bk pat sent rep kept (rc + 1) (un los rc lo) (un wai rc w) (un set rc 0) (un bad rc 0) (un gon rc 0) bp bv dat := by
  have t0 : tn (nI lo) = lo := tn_nI (by omega)
  have t1 : tn (nI w) = w := tn_nI (by omega)
  have h1 := LI_join (x0 := nI lo) (x1 := nI w) h.1 ⟨by rw [nI_toInt (by omega)]; omega, by rw [nI_toInt (by omega)]; omega, hr⟩
  rw [t0, t1] at h1
  exact ⟨h1, h.2.1, by have := h.2.2.1; omega, by have := h.2.2.2.1; omega, by have := h.2.2.2.2; omega⟩
theorem LJ_setLosses (h : LJ j bk pat sent rep kept rc los wai set bad gon bp bv dat) {lo : Nat} (q : Nat) (hl : lo ≤ 2047) : LJ (j + 1) bk pat sent rep kept rc (un los q lo) wai set bad gon bp bv dat := by
  have t0 : tn (nI lo) = lo := tn_nI (by omega)
  have h1 := LI_setLosses (x1 := nI lo) h.1 q (by rw [nI_toInt (by omega)]; omega)
  rw [t0] at h1
  exact ⟨h1, h.2.1, by have := h.2.2.1; omega, by have := h.2.2.2.1; omega, by have := h.2.2.2.2; omega⟩
theorem LJ_setWait (h : LJ j bk pat sent rep kept rc los wai set bad gon bp bv dat) {w : Nat} (q : Nat) (hw : w ≤ 20) : LJ (j + 1) bk pat sent rep kept rc los (un wai q w) set bad gon bp bv dat := by
  have t0 : tn (nI w) = w := tn_nI (by omega)
  have h1 := LI_setWait (x1 := nI w) h.1 q (by rw [nI_toInt (by omega)]; omega)
  rw [t0] at h1
  exact ⟨h1, h.2.1, by have := h.2.2.1; omega, by have := h.2.2.2.1; omega, by have := h.2.2.2.2; omega⟩
theorem LJ_send (h : LJ j bk pat sent rep kept rc los wai set bad gon bp bv dat) {mn : Nat} (hm : 1 ≤ mn ∧ mn ≤ 16) (hj : j ≤ 120) : LJ (j + 1) bk pat (sent + mn) rep kept rc los wai (sndM rc sent los gon set mn) bad gon bp bv dat := by
  have t0 : tn (nI mn) = mn := tn_nI (by omega)
  have hs := h.2.2.1
  have h1 := LI_send (x0 := nI mn) h.1 (by rw [nI_toInt (by omega)]; omega)
  rw [t0] at h1
  exact ⟨h1, h.2.1, by omega, by have := h.2.2.2.1; omega, by have := h.2.2.2.2; omega⟩
theorem LJ_wai (h : LJ j bk pat sent rep kept rc los wai set bad gon bp bv dat) : ∀ r, r < rc → wai r ≤ 20 := fun r hr => h.1.2.2.1 r (by have := h.1.1; omega)
theorem LJ_round (h : LJ j bk pat sent rep kept rc los wai set bad gon bp bv dat) (hj : j ≤ 120) : LJ (j + 1) bk pat (sent + mxn (ndf bk set gon) rc) (rep + cnt (pR (ndf bk set gon) wai rc) rc) (kept + cnt (pK (ndf bk set gon) wai rc) rc) rc los wai (sndM rc sent los gon set (mxn (ndf bk set gon) rc)) (bdB rc bk (sndM rc sent los gon set (mxn (ndf bk set gon) rc)) gon bad) (bdG rc bk pat (sndM rc sent los gon set (mxn (ndf bk set gon) rc)) gon bad) bp bv dat := by
  have hs := h.2.2.1
  have h1 := LI_round h.1 (by omega)
  rw [rnH_mxn (LJ_wai h)] at h1
  have hm : mxn (ndf bk set gon) rc ≤ 8 := mxn_le (nd8_le h.1.2.2.2.2.2.2.1) rc
  have hrc := h.1.1
  have c1 := cnt_le (pR (ndf bk set gon) wai rc) rc
  have c2 := cnt_le (pK (ndf bk set gon) wai rc) rc
  exact ⟨h1, h.2.1, by omega, by have := h.2.2.2.1; omega, by have := h.2.2.2.2; omega⟩
end LJS
theorem ub_eq (f : Nat → B8) (j : Nat) : ub f j (f j) = f := by
  funext i
  unfold ub
  split
  · rename_i h
    rw [h]
  · rfl
theorem n_in {n lo hi : Nat} (h31 : hi < 2 ^ 31) (h1 : lo ≤ n) (h2 : n ≤ hi) : (lo : Int) ≤ (nI n).toInt ∧ (nI n).toInt ≤ (hi : Int) := by
  rw [nI_toInt (by omega)]
  omega
theorem j_b0 {ws : va_W} {n sz : Nat} (hD : va_D (fun q : Nat => n ≤ q) ws) (hn : n ≤ sz) : ∀ q, va_A ws sz q → n ≤ q := fun q h => by
  rcases h with ⟨k, e9, h⟩ | h
  · exact hD.2 k (q, e9) h
  · exact Nat.le_trans hn h
section JV
variable {p : Program} {l : Launch} {e : Env} {R : Room} {s : State} {m : MethodId} {args : Array Value} {below : List Frame} {meth : Method} {c : Code} {H : Heap} {locs : List Loc} {cells slots : Nat} {Q : State → Prop}
variable {cc : ByteArray} {pc : Nat} {ls : Array Slot} {rest st0 : List Value} {D : va_G} {cl : List vw_C} {A0 : Nat → Prop} {a : Array Value} {H0 : Heap} {mc ms : Nat}
theorem j_cv {S : Type} {post : S → Prop} {wc pl : va_W} {w1 : S → va_W} (hr : va_Run p l e R s m args below meth c H locs cells slots mc ms (F0 m pc ls st0) rest (va_Qv post (fun u t => va_P D cl (w1 u) t.heap ∧ va_D (va_A wc H.size) (w1 u)) (va_A wc H.size) a) (va_A wc H.size))
    (hP : va_P D cl (wc ++ pl) H) (hD : va_D A0 (wc ++ pl)) (hS : va_S A0 H0 H locs) (hA : ∀ q, H0.size ≤ q → A0 q)
    (kk : ∀ (u : S) (H1 : Heap) (locs1 : List Loc), post u → va_P D cl (w1 u ++ pl) H1 → va_D A0 (w1 u ++ pl) → va_S A0 H0 H1 locs1 → W p l e R s m args below meth c H1 locs1 (cells + mc) (slots + ms) Q (F0 m (pc + 3) ls rest)) : W p l e R s m args below meth c H locs cells slots Q (F0 m pc ls st0) := by
  have hF : ∀ q, va_A wc H.size q → A0 q := fun q h => by
    rcases h with ⟨k, e9, h⟩ | h
    · exact hD.2 k (q, e9) (by rw [List.getElem?_append_left (List.getElem?_eq_some_iff.mp h).1]; exact h)
    · exact hA q (Nat.le_trans hS.1 h)
  refine va_callv hr hS (fun q _ h => hF q h) hF (fun u t H1 locs1 ht hvm hw hB hz1 hk1 hS1 => ?_)
  obtain ⟨hP1, hD1⟩ := hB
  rw [ht] at hP1
  obtain ⟨hP2, hD2⟩ := va_joinQ (X := wc) (cx := wc) (wr := []) hP hD (List.range wc.length) [] (j_range wc) rfl rfl (fun i h => by cases h) hk1 hF hP1 hD1
  exact kk u H1 locs1 hw hP2 hD2 hS1
end JV
section JX
variable {p : Program} {l : Launch} {e : Env} {R : Room} {s : State} {m : MethodId} {args : Array Value} {below : List Frame} {meth : Method} {c : Code} {H : Heap} {locs : List Loc} {cells slots : Nat} {Q : State → Prop}
variable {cc : ByteArray} {pc : Nat} {ls : Array Slot} {rest st0 : List Value} {D : va_G} {cl : List vw_C} {A0 : Nat → Prop} {a : Array Value} {H0 : Heap} {mc ms : Nat}
/-- a call whose cells stand first in the world, that doesn't throw here -/
theorem j_xci {post : Int32 → Unit → Prop} {exc : String → Prop} {wc pl : va_W} {w1 : Unit → va_W} (hr : vx_Run p l e R s m args below meth c H locs cells slots mc ms (F0 m pc ls st0) rest (va_Qi post (fun u t => va_P D cl (w1 u) t.heap ∧ va_D (va_A wc H.size) (w1 u)) (va_A wc H.size) a) (XC exc) (va_A wc H.size))
    (hP : va_P D cl (wc ++ pl) H) (hD : va_D A0 (wc ++ pl)) (hS : va_S A0 H0 H locs) (hA : ∀ q, H0.size ≤ q → A0 q) (hx : ∀ E, exc E → False)
    (kk : ∀ (r : Int32) (H1 : Heap) (locs1 : List Loc), post r () → va_P D cl (w1 () ++ pl) H1 → va_D A0 (w1 () ++ pl) → va_S A0 H0 H1 locs1 → W p l e R s m args below meth c H1 locs1 (cells + mc) (slots + ms) Q (F0 m (pc + 3) ls (.int r :: rest))) : W p l e R s m args below meth c H locs cells slots Q (F0 m pc ls st0) := by
  have hF : ∀ q, va_A wc H.size q → A0 q := fun q h => by
    rcases h with ⟨k, e9, h⟩ | h
    · exact hD.2 k (q, e9) (by rw [List.getElem?_append_left (List.getElem?_eq_some_iff.mp h).1]; exact h)
    · exact hA q (Nat.le_trans hS.1 h)
  refine vx_calli hr hS (fun q _ h => hF q h) hF (fun q _ h => h.elim) (fun E ce q9 u t H1 locs1 ht hvm hw hB hz1 hk1 hS1 hce hcv hcl => (hx E hB).elim) (fun r u t H1 locs1 ht hvm hw hB hz1 hk1 hS1 => ?_)
  obtain ⟨hP1, hD1⟩ := hB
  rw [ht] at hP1
  obtain ⟨hP2, hD2⟩ := va_joinQ (X := wc) (cx := wc) (wr := []) hP hD (List.range wc.length) [] (j_range wc) rfl rfl (fun i h => by cases h) hk1 hF hP1 hD1
  exact kk r H1 locs1 hw hP2 hD2 hS1
end JX
/-- what the law has to come to, at pc, from every state -/
abbrev LN (p : Program) (l : Launch) (e : Env) (s : State) (m : MethodId) (below : List Frame) (meth : Method) (c : Code) (b : Nat) (D : va_G) (cI cZ cQ : ClassId) (Q : State → Prop) (q0 q1 q2 : Nat) (ad : Nat → Nat) (j : Nat) (lv : List (Nat × Value)) (cn sn pc : Nat) : Prop :=
  ∀ (pat : Nat) (sent : Nat) (rep : Nat) (kept : Nat) (rc : Nat) (los : Nat → Nat) (wai : Nat → Nat) (set : Nat → Nat) (bad : Nat → Nat) (gon : Nat → Nat) (bk : Nat) (bp : Nat → B8) (bv : Nat → B8) (ck : Nat) (cp : Nat → B8) (cv : Nat → B8) (ek : Nat) (em : Nat → Nat → B8) (dat : Nat → B8), LJ j bk pat sent rep kept rc los wai set bad gon bp bv dat → ∀ (H : Heap) (locs : List Loc), va_P D vwCl ((wF cI cZ cQ ad (pat) (sent) (rep) (kept) (rc) (los) (wai) (set) (bad) (gon) (bk) (bp) (bv) (ck) (cp) (cv) (ek) (em)) ++ (wT cI q0 q1 q2 (nA bk pat sent rc rep kept) dat (rA los wai set bad gon))) H → va_D (fun q : Nat => s.heap.size ≤ q) ((wF cI cZ cQ ad (pat) (sent) (rep) (kept) (rc) (los) (wai) (set) (bad) (gon) (bk) (bp) (bv) (ck) (cp) (cv) (ek) (em)) ++ (wT cI q0 q1 q2 (nA bk pat sent rc rep kept) dat (rA los wai set bad gon))) → va_S (fun q : Nat => s.heap.size ≤ q) s.heap H locs → ∀ (ls : Array Slot), lv_has ls 15 lv → W p l e room_1 s m #[Value.ref b] below meth c H locs cn sn Q (F0 m pc ls [])
