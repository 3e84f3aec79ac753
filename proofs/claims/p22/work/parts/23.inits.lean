/-! ===== BEGIN new T[n][m]: the outer array a place, the inner ones among the pooled ===== -/
/-- f, but v at every address of l -/
def vr_up {α : Type} (f : Nat → α) (l : List Nat) (v : α) : Nat → α := fun a => if a ∈ l then v else f a
theorem vr_up_in {α : Type} {f : Nat → α} {l : List Nat} {v : α} {a : Nat} (h : a ∈ l) : vr_up f l v a = v := if_pos h
theorem vr_up_ne {α : Type} {f : Nat → α} {l : List Nat} {v : α} {a : Nat} (h : a ∉ l) : vr_up f l v a = f a := if_neg h
theorem vr_rows {L l : List Nat} {f : Nat → va_E} {e : va_E} (h : ∀ a, a ∈ l → a ∉ L) : va_pl L f ++ l.map (fun a => (a, e)) = va_pl (L ++ l) (vr_up f l e) := by
  unfold va_pl
  rw [List.map_append]
  congr 1
  · apply List.map_congr_left
    intro a ha
    rw [vr_up_ne (fun q => h a q ha)]
  · apply List.map_congr_left
    intro a ha
    rw [vr_up_in ha]
theorem vr_lay {X rows : va_W} {x : Nat × va_E} {pl : va_W} {D : va_G} {cl : List vw_C} {H : Heap} (hP : va_P D cl (((X ++ pl) ++ [x]) ++ rows) H) : va_P D cl ((X ++ [x]) ++ (pl ++ rows)) H := by
  rw [List.append_assoc (X ++ pl)] at hP
  have h := va_P.swap hP
  rw [← List.append_assoc X] at h
  have h2 := va_P.swap h
  rw [List.append_assoc (X ++ [x])] at h2
  exact h2
theorem vr_layD {X rows : va_W} {x : Nat × va_E} {pl : va_W} {A : Nat → Prop} (hD : va_D A (((X ++ pl) ++ [x]) ++ rows)) : va_D A ((X ++ [x]) ++ (pl ++ rows)) := by
  rw [List.append_assoc (X ++ pl)] at hD
  have h := va_D.swap hD
  rw [← List.append_assoc X] at h
  have h2 := va_D.swap h
  rw [List.append_assoc (X ++ [x])] at h2
  exact h2
theorem vr_outer (c : ClassId) (N h0 : Nat) : ∀ i : Nat, Jvm.Free.Multi.outerC c N h0 i = arrV c N (fun j => va_rf (if j < i then some (h0 + 1 + j) else none))
  | 0 => by
    show ({ cls := c, slots := Array.replicate N .null, vm := .none } : Cell) = _
    rw [arrV_new]
    refine congrArg (arrV c N) (funext fun j => ?_)
    simp [va_rf]
  | i + 1 => by
    show (Jvm.Free.Multi.outerC c N h0 i).setSlot i (.ref (h0 + 1 + i)) = _
    rw [vr_outer c N h0 i, arrV_store]
    refine congrArg (arrV c N) (funext fun j => ?_)
    by_cases e : j = i
    · subst e
      simp [updV, va_rf]
    · by_cases h : j < i
      · simp [updV, e, h, Nat.lt_succ_of_lt h]
      · simp [updV, e, h, show ¬ j < i + 1 by omega]
section VGM
variable {p : Program} {l : Launch} {e : Env} {R : Room} {s : State} {m : MethodId} {args : Array Value} {below : List Frame} {meth : Method} {c : Code} {H : Heap} {locs : List Loc} {cells slots : Nat} {Q : State → Prop}
variable {cc : ByteArray} {pc : Nat} {ls : Array Slot} {rest : List Value} {D : va_G} {cl : List vw_C} {A : Nat → Prop} {a : Nat} {tys : List (ClassId × FieldType)} {ws : va_W} {H0 : Heap}
theorem va_mna {X : va_W} {L : List Nat} {f : Nat → va_E} {cc : ByteArray} (hexec : p.tables.exec = Jvm.exec) (hb : c.code = cc) {own : String} {index : Nat} {ty : FieldType} {cy : ClassId} (hown : s.vm.findClass own = some m.cls) (hclink : (Cond.classLink own index ("[" ++ (FieldType.array ty).toString)).before args s = true) (hover : (Cond.arrayOver (.array ty)).before args s = true) (harr : (Cond.arrayClass ty).before args s = true) (hcy : s.vm.findClass (FieldType.array ty).toString = some cy)
    (hK : va_K D cl tys s) (hP : va_P D cl (X ++ va_pl L f) H) (hD : va_D A (X ++ va_pl L f)) (hS : va_S A H0 H locs) (hA : ∀ q, H0.size ≤ q → A q) {n k : Int32} {N' K' : Nat} {z : vp_A} (hn : ¬ n < 0) (hk : ¬ k < 0) (hN : n.toNatClampNeg = N') (hM : k.toNatClampNeg = K')
    (hb1 : N' * 4 ≤ 536870912) (hb2 : K' * componentBytes ty ≤ 536870912) (hb3 : K' ≤ 536870912) (hdf : fits ty (defaultValue ty) = true) (hdd : (defaultValue ty).isDefault = true) (hcells : cells + (1 + N') ≤ R.cells) (hslots : slots + (N' + N' * K') ≤ R.slots) (hz : ∀ c : ClassId, Jvm.Free.Multi.innerC c K' (defaultValue ty) = vp_cell c z) (hdg : decode cc pc = .ok (.multianewarray index 2, 4))
    (kk : ∀ (q : Nat) (r : Nat → Nat) (cA : ClassId) (H1 : Heap), (∀ i j : Nat, i < N' → j < N' → r i = r j → i = j) → (∀ i : Nat, i < N' → r i ∉ L) → va_K D cl (tys ++ [(cA, .array ty)]) s →
      va_P D cl ((X ++ [(q, .inl (cA, N', .inr (.inr (.inr (.inr (fun i => if i < N' then some (r i) else none))))))]) ++ va_pl (L ++ (List.range N').map r) (vr_up f ((List.range N').map r) (.inl (cy, z)))) H1 → va_D A ((X ++ [(q, .inl (cA, N', .inr (.inr (.inr (.inr (fun i => if i < N' then some (r i) else none))))))]) ++ va_pl (L ++ (List.range N').map r) (vr_up f ((List.range N').map r) (.inl (cy, z)))) → va_S A H0 H1 locs →
      W p l e R s m args below meth c H1 locs (cells + 1 + N') (slots + N' + N' * K') Q (F0 m (pc + 4) ls (.ref q :: rest))) : W p l e R s m args below meth c H locs cells slots Q (F0 m pc ls (.int k :: .int n :: rest)) := by
  subst hN
  subst hM
  intro T hT Xs
  obtain ⟨vm₁, cA, comp, -, fA, fC, hO, -, X', step⟩ := Xs.multianewarray2F hexec hown hclink hover harr (g := F0 m pc ls (.int k :: .int n :: rest)) rfl (by rw [hb]; exact hdg) rfl hn hk hb1 hb2 hb3 hdf hdd hcells hslots
  have ec : some cy = some comp := hcy.symm.trans fC
  cases ec
  generalize hF : Jvm.Free.Multi.fill (T.setVm vm₁) cA cy n.toNatClampNeg k.toNatClampNeg (defaultValue ty) n.toNatClampNeg = F at X' step
  have hTh : (T.setVm vm₁).heap = H := hT
  obtain ⟨f1, f2, -, -⟩ := Jvm.Free.Multi.fill_facts (T.setVm vm₁) cA cy n.toNatClampNeg k.toNatClampNeg (defaultValue ty) n.toNatClampNeg
  rw [hF, hTh] at f1 f2
  have hold : ∀ x : Nat, x < H.size → F.heap[x]? = H[x]? := fun x hx => by
    have := Jvm.Free.Multi.fill_old (T.setVm vm₁) cA cy n.toNatClampNeg k.toNatClampNeg (defaultValue ty) (a := x) (by rw [hTh]; exact hx) n.toNatClampNeg
    rw [hF, hTh] at this
    exact this
  have hrow : ∀ j : Nat, j < n.toNatClampNeg → F.heap[H.size + 1 + j]? = some (vp_cell cy z) := fun j hj => by
    have := Jvm.Free.Multi.fill_inner (T.setVm vm₁) cA cy n.toNatClampNeg k.toNatClampNeg (defaultValue ty) n.toNatClampNeg j hj
    rw [hF, hTh, hz] at this
    exact this
  have hout : Jvm.Free.Multi.outerC cA n.toNatClampNeg H.size n.toNatClampNeg = vp_cell cA (n.toNatClampNeg, .inr (.inr (.inr (.inr (fun i => if i < n.toNatClampNeg then some (H.size + 1 + i) else none))))) := by
    rw [vp_cell_q]
    exact vr_outer cA n.toNatClampNeg H.size n.toNatClampNeg
  rw [hout] at f2
  have hlt : ∀ a, a ∈ L → a < H.size := fun a ha => by
    obtain ⟨k9, hk9⟩ := va_pl_get (X := X) (f := f) ha
    exact (hP k9 _ hk9).lt
  have hnl : ∀ i : Nat, i < n.toNatClampNeg → H.size + 1 + i ∉ L := fun i _ h => by
    have := hlt _ h
    omega
  have hnm : ∀ a, a ∈ (List.range n.toNatClampNeg).map (fun i => H.size + 1 + i) → a ∉ L := fun a ha h => by
    obtain ⟨i, -, rfl⟩ := List.mem_map.mp ha
    have := hlt _ h
    omega
  have hP0 : va_P D cl (X ++ va_pl L f) F.heap := hP.kept (fun k9 x hx => hold x.1 ((hP k9 x hx).lt))
  have hP1 : va_P D cl ((X ++ va_pl L f) ++ [(H.size, .inl (cA, n.toNatClampNeg, .inr (.inr (.inr (.inr (fun i => if i < n.toNatClampNeg then some (H.size + 1 + i) else none))))))]) F.heap := hP0.app (fun k9 x hx => by
    have h0 : k9 < 1 := (List.getElem?_eq_some_iff.mp hx).1
    rw [show k9 = 0 by omega] at hx
    cases hx
    exact f2)
  have hP2 : va_P D cl (((X ++ va_pl L f) ++ [(H.size, .inl (cA, n.toNatClampNeg, .inr (.inr (.inr (.inr (fun i => if i < n.toNatClampNeg then some (H.size + 1 + i) else none))))))]) ++ ((List.range n.toNatClampNeg).map (fun i => H.size + 1 + i)).map (fun a => (a, .inl (cy, z)))) F.heap := hP1.app (fun k9 x hx => by
    obtain ⟨a, ha, rfl⟩ := List.mem_map.mp (List.mem_of_getElem? hx)
    obtain ⟨i, hi, rfl⟩ := List.mem_map.mp ha
    exact hrow i (List.mem_range.mp hi))
  have hD2 : va_D A (((X ++ va_pl L f) ++ [(H.size, .inl (cA, n.toNatClampNeg, .inr (.inr (.inr (.inr (fun i => if i < n.toNatClampNeg then some (H.size + 1 + i) else none))))))]) ++ ((List.range n.toNatClampNeg).map (fun i => H.size + 1 + i)).map (fun a => (a, .inl (cy, z)))) := by
    have hD1 := hD.push (e := .inl (cA, n.toNatClampNeg, .inr (.inr (.inr (.inr (fun i => if i < n.toNatClampNeg then some (H.size + 1 + i) else none)))))) hP rfl (hA _ hS.1)
    generalize hW1 : (X ++ va_pl L f) ++ [(H.size, .inl (cA, n.toNatClampNeg, .inr (.inr (.inr (.inr (fun i => if i < n.toNatClampNeg then some (H.size + 1 + i) else none))))))] = W1 at hD1 hP1 ⊢
    have hle : ∀ (k9 : Nat) (x : Nat × va_E), W1[k9]? = some x → x.1 ≤ H.size := fun k9 x hx => by
      rw [← hW1] at hx
      by_cases hl : k9 < (X ++ va_pl L f).length
      · rw [List.getElem?_append_left hl] at hx
        exact Nat.le_of_lt ((hP k9 x hx).lt)
      · rw [List.getElem?_append_right (by omega)] at hx
        have h0 : k9 - (X ++ va_pl L f).length < 1 := (List.getElem?_eq_some_iff.mp hx).1
        rw [show k9 - (X ++ va_pl L f).length = 0 by omega] at hx
        cases hx
        exact Nat.le_refl _
    have hr : ∀ (k9 : Nat) (x : Nat × va_E), (((List.range n.toNatClampNeg).map (fun i => H.size + 1 + i)).map (fun a => ((a, .inl (cy, z)) : Nat × va_E)))[k9]? = some x → x.1 = H.size + 1 + k9 := fun k9 x hx => by
      rw [List.getElem?_map, List.getElem?_map] at hx
      by_cases h9 : k9 < n.toNatClampNeg
      · rw [List.getElem?_range h9] at hx
        cases hx
        rfl
      · have hn0 : (List.range n.toNatClampNeg)[k9]? = none := List.getElem?_eq_none (by rw [List.length_range]; omega)
        rw [hn0] at hx
        cases hx
    refine ⟨fun i j x y hi hj hxy => ?_, fun k9 x hx => ?_⟩
    · by_cases h1 : i < W1.length <;> by_cases h2 : j < W1.length
      · rw [List.getElem?_append_left h1] at hi
        rw [List.getElem?_append_left h2] at hj
        exact hD1.1 i j x y hi hj hxy
      · rw [List.getElem?_append_left h1] at hi
        rw [List.getElem?_append_right (by omega)] at hj
        have := hle _ _ hi
        have := hr _ _ hj
        omega
      · rw [List.getElem?_append_right (by omega)] at hi
        rw [List.getElem?_append_left h2] at hj
        have := hle _ _ hj
        have := hr _ _ hi
        omega
      · rw [List.getElem?_append_right (by omega)] at hi hj
        have := hr _ _ hi
        have := hr _ _ hj
        omega
    · by_cases h1 : k9 < W1.length
      · rw [List.getElem?_append_left h1] at hx
        exact hD1.2 k9 x hx
      · rw [List.getElem?_append_right (by omega)] at hx
        have := hr _ _ hx
        exact hA _ (by have := hS.1; omega)
  have hAr : ArrOfT s cA (.array ty) := fun N9 z9 => by
    obtain ⟨-, k9, hk9, cm9, hkk9⟩ := (hO 0 0 0).1
    exact ⟨(fun q hq => by cases hq), k9, hk9, cm9, hkk9⟩
  have hK2 : va_K D cl (tys ++ [(cA, .array ty)]) s := ⟨hK.1, fun k9 x hx => by
    by_cases hl : k9 < tys.length
    · rw [List.getElem?_append_left hl] at hx
      exact hK.2 k9 x hx
    · rw [List.getElem?_append_right (by omega)] at hx
      have h0 : k9 - tys.length < 1 := (List.getElem?_eq_some_iff.mp hx).1
      rw [show k9 - tys.length = 0 by omega] at hx
      cases hx
      exact ⟨hAr, fA⟩⟩
  obtain ⟨t, a1, b1⟩ := kk H.size (fun i => H.size + 1 + i) cA F.heap (fun i j _ _ h => by have h9 : H.size + 1 + i = H.size + 1 + j := h; omega) hnl hK2 (by rw [← vr_rows hnm]; exact vr_lay hP2) (by rw [← vr_rows hnm]; exact vr_layD hD2) ⟨by rw [f1]; have := hS.1; omega, fun x h1 h2 => (hold x (Nat.lt_of_lt_of_le h1 hS.1)).trans (hS.2.1 x h1 h2), hS.2.2⟩ F rfl X'
  refine ⟨t, step t ?_, b1⟩
  have e : T.heap.size = H.size := by rw [hT]
  rw [e]
  exact a1
end VGM
/-! ===== END ===== -/
/-! the class of arrays of arrays -/
def AK (U : State) : Prop := (Cond.arrayOver (.array .int)).before #[] U = true
theorem AK_use {A : Array Value} {U : State} (h : AK U) : (Cond.arrayOver (.array .int)).before A U = true := h
theorem AK_of {A : Array Value} {U : State} (h : (Cond.arrayOver (.array .int)).before A U = true) : AK U := h
theorem AK_moved {u U : State} (hvm : u.vm.Alike U.vm) (h : AK u) : AK U := by
  obtain ⟨comp, c, k, h1, h2, h3, h4, h5⟩ := arrayOverA_spec h
  obtain ⟨k', hk', he⟩ := hvm.2.2 _ _ h3
  have hi : (U.vm.classes.findIdx? fun (x : Class) => match x.kind with | .array component _ => component == comp | _ => false) = some c :=
    (Vm.Alike.findIdx?_eq hvm (fun (x : Class) => match x.kind with | .array component _ => component == comp | _ => false) (fun _ => rfl)).trans h2
  have hkind : k'.kind = .array comp (.array .int) := by rw [he]; exact h4
  have f1 : U.vm.findClass (FieldType.array .int).toString = some comp := by rw [hvm.findClass]; exact h1
  have f2 : U.vm.findClass ("[" ++ (FieldType.array .int).toString) = some c := by rw [hvm.findClass]; exact h5
  unfold AK Cond.before Cond.holds
  simp only [Cond.value]
  rw [f1, Option.bind_some]
  refine (congrArg (fun o : Option Nat => (o.bind (fun c => (U.vm.classes[c]?).map fun (k : Class) => match k.kind with | .array _ ty => decide (ty = FieldType.array .int) && decide (U.vm.findClass ("[" ++ (FieldType.array .int).toString) = some c) | _ => false) == some true)) hi).trans ?_
  simp [hk', hkind, f2]
def PA (D : va_G) (tys : List (ClassId × FieldType)) (ws : va_W) (sz : Nat) (av : List Value) : Array Value → State → Prop :=
  va_Pc av (fun U => U.heap.size = sz ∧ va_P D vwCl ws U.heap ∧ va_K D vwCl tys U ∧ va_D (fun _ => True) ws ∧ NK U ∧ AK U)
theorem PA_s {D : va_G} {tys : List (ClassId × FieldType)} {ws : va_W} {A : Nat → Prop} {s : State} {H : Heap} {As : List Value} (hP : va_P D vwCl ws H) (hK : va_K D vwCl tys s) (hD : va_D A ws) (hN : NK s) (hAK : AK s) : PreS s H (PA D tys ws H.size As) As :=
  ⟨fun a U g mk q => by
    obtain ⟨q0, q1, qP, qK, qD, qN, qA⟩ := q
    exact ⟨q0, q1, qP, va_K.moved (u := U) (U := U.calling g mk a) (Vm.Alike.refl U.vm) qK, qD, NK_call g mk a qN, AK_moved (u := U) (U := U.calling g mk a) (Vm.Alike.refl U.vm) qA⟩, fun U hU hW => ⟨rfl, by rw [hU], by rw [hU]; exact hP, va_K.moved hW.alike hK, hD.weaken (fun _ _ _ _ => trivial), NK_warm hW hN, AK_moved hW.alike hAK⟩⟩
theorem tys_I {D : va_G} {cl : List vw_C} {cI cZ cQ cL cA : ClassId} {s : State} (hK : va_K D cl (TY cI cZ cQ cL) s) (hK2 : va_K D cl (TY cI cZ cQ cL ++ [(cA, .int)]) s) : cA = cI :=
  Option.some.inj ((show s.vm.findClass _ = some cA from (hK2.2 4 _ rfl).2).symm.trans (hK.2 0 _ rfl).2)
theorem tys_Z {D : va_G} {cl : List vw_C} {cI cZ cQ cL cA : ClassId} {s : State} (hK : va_K D cl (TY cI cZ cQ cL) s) (hK2 : va_K D cl (TY cI cZ cQ cL ++ [(cA, .boolean)]) s) : cA = cZ :=
  Option.some.inj ((show s.vm.findClass _ = some cA from (hK2.2 4 _ rfl).2).symm.trans (hK.2 1 _ rfl).2)
theorem tys_Q {D : va_G} {cl : List vw_C} {cI cZ cQ cL cA : ClassId} {s : State} (hK : va_K D cl (TY cI cZ cQ cL) s) (hK2 : va_K D cl (TY cI cZ cQ cL ++ [(cA, .array .int)]) s) : cA = cQ :=
  Option.some.inj ((show s.vm.findClass _ = some cA from (hK2.2 4 _ rfl).2).symm.trans (hK.2 2 _ rfl).2)
theorem nF0 (c : ClassId) (n : Nat) : vp_cell c (n, .inl (nF (fun _ => 0))) = arrV c n (fun _ => defaultValue .int) := by
  rw [vp_cell_i]
  rfl
theorem nZ0 (c : ClassId) (n : Nat) : vp_cell c (n, .inl (nF (fun _ => 0))) = arrV c n (fun _ => defaultValue .boolean) := by
  rw [vp_cell_i]
  rfl
theorem bF0 (c : ClassId) (n : Nat) : vp_cell c (n, .inl (bF (fun _ => 0))) = arrV c n (fun _ => defaultValue .int) := by
  rw [vp_cell_i]
  rfl
def adf (l : List Nat) (ra : Nat → Nat) : Nat → Nat := fun i => if i < l.length then l.getD i 0 else ra (i - l.length)
theorem iwX2_init_X2 : ∀ w ∈ wsX20, w ∈ wsX2_init := by decide +kernel
set_option maxHeartbeats 8000000 in
set_option maxRecDepth 100000 in
theorem c_X2_init (l : Launch) (D : va_G) (cI cZ cQ cL : ClassId) (a0 sz : Nat) : Met l yX2_init wsX2_init ({ frames := 1, cells := 2, slots := 16, locals := 12 } : Room) (PW D (TY cI cZ cQ cL) ([(a0, .inr (1, [.null, .null, .int (nI (0))]))] : va_W) sz [.ref a0]) (QV D (va_A ([(a0, .inr (1, [.null, .null, .int (nI (0))]))] : va_W) sz) (fun u : Nat × Nat => True) (fun u => wPt cI (a0) u.1 u.2 0 (fun _ => 0) (fun _ => 0))) 2 16 (va_A ([(a0, .inr (1, [.null, .null, .int (nI (0))]))] : va_W) sz) := by
  refine Met.ofW (cc := cX2_init) (maxL := 1) (ret := none) (by decide) rfl ?_
  intro p e s m args below meth c s₁ B hml hv
  obtain ⟨rfl, hsz, hP, hK, hD0, hN⟩ := hv
  have hx := B.exec
  have hb := B.bytes
  have hr := B.returns
  have hts := atoms_spec (ws := wsX2_init) B.pre
  have hown : s.vm.findClass RX2 = some m.cls := findClass_of_methodNamed B.named
  have hlocks := B.notSynchronized
  have hin : meth.name = "<init>" := (name_of_methodNamed B.named B.method).1
  subst hsz
  have hD := hD0.self (sz := s.heap.size)
  generalize hAe : va_A ([(a0, .inr (1, [.null, .null, .int (nI (0))]))] : va_W) s.heap.size = A at hD ⊢
  have hA : ∀ q : Nat, s.heap.size ≤ q → A q := fun q h => by rw [← hAe]; exact Or.inr h
  have hS : va_S A s.heap s.heap [] := va_S.rf
  have hl := lv_entry ([.ref a0]) (n := 1) (Nat.le_of_ble_eq_true rfl)
  rw [lg_entry_eq]
  generalize (lg_sl ([.ref a0]) ++ List.replicate (1 - (lg_sl ([.ref a0])).length) Slot.unset).toArray = ls at hl ⊢
  have hl : lv_has ls 1 [(0, .ref a0)] := hl
  refine lv_aload_n hx hb dX2_init_0 rfl (lv_at hl 0 rfl) ?_
  refine W.objInit hx hb hown (hts (.methodLink RX2 3 objectInit) (List.mem_of_getElem? (i := 1) rfl)) (hts (.instanceMethod objectInit) (List.mem_of_getElem? (i := 2) rfl)) (hts (.code objectInit ⟨#[0xb1]⟩ 1 none) (List.mem_of_getElem? (i := 3) rfl)) rfl (by rw [hml]; exact hl.1) rfl dX2_init_1 (Nat.le_of_ble_eq_true rfl) (Nat.le_of_ble_eq_true rfl) ?_
  refine W.eq (g2 := F0 m 4 ls []) rfl ?_
  refine lv_aload_n hx hb dX2_init_4 rfl (lv_at hl 0 rfl) ?_
  refine lv_bipush (v := nI (8)) hx hb dX2_init_5 (by decide) ?_
  refine va_newa (atype := .int) hx hb (hts (.arrayClass .int) (List.mem_of_getElem? (i := 4) rfl)) rfl hK hP hD hS hA (a0 := (8, .inl (bF (fun _ => 0)))) (fun c9 => bF0 c9 8) (by decide) (by decide) (by decide) (by decide) (by decide) dX2_init_7 (fun q7 cA H hK2 hP hD hS => ?_)
  have eA : cI = cA := (tys_I hK hK2).symm
  subst eA
  have hP : va_P D vwCl ([(a0, .inr (1, [.null, .null, .int (nI (0))])), (q7, .inl (cI, 8, .inl (bF (fun _ => 0))))] : va_W) H := hP
  have hD : va_D A ([(a0, .inr (1, [.null, .null, .int (nI (0))])), (q7, .inl (cI, 8, .inl (bF (fun _ => 0))))] : va_W) := hD
  refine va_putF (D := D) (ci := 1) (v := .ref (q7)) (ty := .array .int) (C := RX2) (T := TX2) (N := 3) hx hb hts iwX2_init_X2 tyX2 tyX2_ok nmX2 hown hK hP hD hS 0 rfl rfl 0 (by decide) (hts (.fieldLink RX2 9 "RepairSender$Points" "places" "[I") (List.mem_of_getElem? (i := 5) rfl)) (fun _ h9 => h9) rfl hin rfl (by decide +kernel) rfl rfl (Nat.le_of_ble_eq_true rfl) dX2_init_9 (fun H locs hP hD hS => ?_)
  have hP : va_P D vwCl ([(a0, .inr (1, [.ref (q7), .null, .int (nI (0))])), (q7, .inl (cI, 8, .inl (bF (fun _ => 0))))] : va_W) H := hP
  have hD : va_D A ([(a0, .inr (1, [.ref (q7), .null, .int (nI (0))])), (q7, .inl (cI, 8, .inl (bF (fun _ => 0))))] : va_W) := hD
  refine lv_aload_n hx hb dX2_init_12 rfl (lv_at hl 0 rfl) ?_
  refine lv_bipush (v := nI (8)) hx hb dX2_init_13 (by decide) ?_
  refine va_newa (atype := .int) hx hb (hts (.arrayClass .int) (List.mem_of_getElem? (i := 4) rfl)) rfl hK hP hD hS hA (a0 := (8, .inl (bF (fun _ => 0)))) (fun c9 => bF0 c9 8) (by decide) (by decide) (by decide) (by decide) (by decide) dX2_init_15 (fun q15 cA H hK2 hP hD hS => ?_)
  have eA : cI = cA := (tys_I hK hK2).symm
  subst eA
  have hP : va_P D vwCl ([(a0, .inr (1, [.ref (q7), .null, .int (nI (0))])), (q7, .inl (cI, 8, .inl (bF (fun _ => 0)))), (q15, .inl (cI, 8, .inl (bF (fun _ => 0))))] : va_W) H := hP
  have hD : va_D A ([(a0, .inr (1, [.ref (q7), .null, .int (nI (0))])), (q7, .inl (cI, 8, .inl (bF (fun _ => 0)))), (q15, .inl (cI, 8, .inl (bF (fun _ => 0))))] : va_W) := hD
  refine va_putF (D := D) (ci := 1) (v := .ref (q15)) (ty := .array .int) (C := RX2) (T := TX2) (N := 3) hx hb hts iwX2_init_X2 tyX2 tyX2_ok nmX2 hown hK hP hD hS 0 rfl rfl 1 (by decide) (hts (.fieldLink RX2 15 "RepairSender$Points" "values" "[I") (List.mem_of_getElem? (i := 6) rfl)) (fun _ h9 => h9) rfl hin rfl (by decide +kernel) rfl rfl (Nat.le_of_ble_eq_true rfl) dX2_init_17 (fun H locs hP hD hS => ?_)
  have hP : va_P D vwCl ([(a0, .inr (1, [.ref (q7), .ref (q15), .int (nI (0))])), (q7, .inl (cI, 8, .inl (bF (fun _ => 0)))), (q15, .inl (cI, 8, .inl (bF (fun _ => 0))))] : va_W) H := hP
  have hD : va_D A ([(a0, .inr (1, [.ref (q7), .ref (q15), .int (nI (0))])), (q7, .inl (cI, 8, .inl (bF (fun _ => 0)))), (q15, .inl (cI, 8, .inl (bF (fun _ => 0))))] : va_W) := hD
  have hP : va_P D vwCl (wPt cI a0 q7 q15 0 (fun _ => 0) (fun _ => 0)) H := hP
  have hD : va_D A (wPt cI a0 q7 q15 0 (fun _ => 0) (fun _ => 0)) := hD
  exact W.vret hx hb hr (fun t ht hW => ⟨⟨(q7, q15), rfl, trivial, by rw [ht]; exact hP, hD⟩, hS.F ht⟩) hS.2.2 dX2_init_20

theorem iwX0_init_X0 : ∀ w ∈ wsX00, w ∈ wsX0_init := by decide +kernel
set_option maxHeartbeats 8000000 in
set_option maxRecDepth 100000 in
theorem c_X0_init (l : Launch) (D : va_G) (cI cZ cQ cL : ClassId) (a0 sz : Nat) : Met l yX0_init wsX0_init ({ frames := 1, cells := 9, slots := 80, locals := 12 } : Room) (PA D (TY cI cZ cQ cL) ([(a0, .inr (0, [.null, .int (nI (0))]))] : va_W) sz [.ref a0]) (QV D (va_A ([(a0, .inr (0, [.null, .int (nI (0))]))] : va_W) sz) (fun u : Nat × (Nat → Nat) => True) (fun u => wEq cI cQ (a0) u.1 u.2 0 (fun _ _ => 0))) 9 80 (va_A ([(a0, .inr (0, [.null, .int (nI (0))]))] : va_W) sz) := by
  refine Met.ofW (cc := cX0_init) (maxL := 1) (ret := none) (by decide) rfl ?_
  intro p e s m args below meth c s₁ B hml hv
  obtain ⟨rfl, hsz, hP, hK, hD0, hN, hAK⟩ := hv
  have hx := B.exec
  have hb := B.bytes
  have hr := B.returns
  have hts := atoms_spec (ws := wsX0_init) B.pre
  have hown : s.vm.findClass RX0 = some m.cls := findClass_of_methodNamed B.named
  have hlocks := B.notSynchronized
  have hin : meth.name = "<init>" := (name_of_methodNamed B.named B.method).1
  subst hsz
  have hD := hD0.self (sz := s.heap.size)
  generalize hAe : va_A ([(a0, .inr (0, [.null, .int (nI (0))]))] : va_W) s.heap.size = A at hD ⊢
  have hA : ∀ q : Nat, s.heap.size ≤ q → A q := fun q h => by rw [← hAe]; exact Or.inr h
  have hS : va_S A s.heap s.heap [] := va_S.rf
  have hl := lv_entry ([.ref a0]) (n := 1) (Nat.le_of_ble_eq_true rfl)
  rw [lg_entry_eq]
  generalize (lg_sl ([.ref a0]) ++ List.replicate (1 - (lg_sl ([.ref a0])).length) Slot.unset).toArray = ls at hl ⊢
  have hl : lv_has ls 1 [(0, .ref a0)] := hl
  refine lv_aload_n hx hb dX0_init_0 rfl (lv_at hl 0 rfl) ?_
  refine W.objInit hx hb hown (hts (.methodLink RX0 3 objectInit) (List.mem_of_getElem? (i := 1) rfl)) (hts (.instanceMethod objectInit) (List.mem_of_getElem? (i := 2) rfl)) (hts (.code objectInit ⟨#[0xb1]⟩ 1 none) (List.mem_of_getElem? (i := 3) rfl)) rfl (by rw [hml]; exact hl.1) rfl dX0_init_1 (Nat.le_of_ble_eq_true rfl) (Nat.le_of_ble_eq_true rfl) ?_
  refine W.eq (g2 := F0 m 4 ls []) rfl ?_
  refine lv_aload_n hx hb dX0_init_4 rfl (lv_at hl 0 rfl) ?_
  refine lv_bipush (v := nI (8)) hx hb dX0_init_5 (by decide) ?_
  refine lv_bipush (v := nI (9)) hx hb dX0_init_7 (by decide) ?_
  refine va_mna (X := ([(a0, .inr (0, [.null, .int (nI (0))]))] : va_W)) (L := []) (f := fun _ => .inr (0, [])) (ty := .int) (cy := cI) (z := (9, .inl (bF (fun _ => 0)))) hx hb hown (hts (.classLink RX0 9 "[[I") (List.mem_of_getElem? (i := 4) rfl)) (AK_use hAK) (hts (.arrayClass .int) (List.mem_of_getElem? (i := 5) rfl)) (hK.2 0 _ rfl).2 hK hP hD hS hA (N' := 8) (K' := 9) (by decide) (by decide) (by decide) (by decide) (by decide) (by decide) (by decide) (by decide) (by decide) (by decide) (by decide) (fun c9 => by rw [bF0]; rfl) dX0_init_9 (fun q ra cA H hra hrl hK2 hP hD hS => ?_)
  have eA : cQ = cA := (tys_Q hK hK2).symm
  subst eA
  have eR : va_pl ([] ++ (List.range 8).map ra) (vr_up (fun _ => .inr (0, [])) ((List.range 8).map ra) (.inl (cI, 9, .inl (bF (fun _ => 0))))) = eqR cI ra (fun _ _ => 0) := by
    unfold va_pl eqR
    rw [List.nil_append, List.map_map]
    apply List.map_congr_left
    intro j hj
    show (ra j, vr_up _ _ _ (ra j)) = _
    rw [vr_up_in (List.mem_map.mpr ⟨j, hj, rfl⟩)]
  rw [eR] at hP hD
  refine va_putF (D := D) (ci := 0) (v := .ref (q)) (ty := .array (.array .int)) (C := RX0) (T := TX0) (N := 2) hx hb hts iwX0_init_X0 tyX0 tyX0_ok nmX0 hown hK hP hD hS 0 rfl rfl 0 (by decide) (hts (.fieldLink RX0 11 "RepairSender$Equations" "cells" "[[I") (List.mem_of_getElem? (i := 6) rfl)) (fun _ h9 => h9) rfl hin rfl (by decide +kernel) rfl rfl (Nat.le_of_ble_eq_true rfl) dX0_init_13 (fun H locs hP hD hS => ?_)
  have hP : va_P D vwCl (wEq cI cQ a0 q ra 0 (fun _ _ => 0)) H := hP
  have hD : va_D A (wEq cI cQ a0 q ra 0 (fun _ _ => 0)) := hD
  exact W.vret hx hb hr (fun t ht hW => ⟨⟨(q, ra), rfl, trivial, by rw [ht]; exact hP, hD⟩, hS.F ht⟩) hS.2.2 dX0_init_16

theorem iwX3_init_X2 : ∀ w ∈ wsX20, w ∈ wsX3_init := by decide +kernel
theorem iwX3_init_X3 : ∀ w ∈ wsX30, w ∈ wsX3_init := by decide +kernel
theorem iwX3_init_X0 : ∀ w ∈ wsX00, w ∈ wsX3_init := by decide +kernel
set_option maxHeartbeats 8000000 in
set_option maxRecDepth 100000 in
theorem c_X3_init (l : Launch) (D : va_G) (cI cZ cQ cL : ClassId) (a0 sz : Nat) : Met l yX3_init wsX3_init ({ frames := 2, cells := 21, slots := 150, locals := 45 } : Room) (PA D (TY cI cZ cQ cL) ([(a0, .inr (2, [.null, .int (nI (0)), .int (nI (0)), .int (nI (0)), .int (nI (0)), .int (nI (0)), .null, .null, .null, .null, .null, .null, .null]))] : va_W) sz [.ref a0]) (QV D (va_A ([(a0, .inr (2, [.null, .int (nI (0)), .int (nI (0)), .int (nI (0)), .int (nI (0)), .int (nI (0)), .null, .null, .null, .null, .null, .null, .null]))] : va_W) sz) (fun u : Nat → Nat => u 0 = a0) (fun u => (wF cI cZ cQ u 3 0 0 0 0 (fun _ => 0) (fun _ => 0) (fun _ => 0) (fun _ => 0) (fun _ => 0) 4 (idp 4 (fun _ => 0)) (zrv 4 (fun _ => 0)) 0 (fun _ => 0) (fun _ => 0) 0 (fun _ _ => 0)))) 21 150 (va_A ([(a0, .inr (2, [.null, .int (nI (0)), .int (nI (0)), .int (nI (0)), .int (nI (0)), .int (nI (0)), .null, .null, .null, .null, .null, .null, .null]))] : va_W) sz) := by
  refine Met.ofW (cc := cX3_init) (maxL := 1) (ret := none) (by decide) rfl ?_
  intro p e s m args below meth c s₁ B hml hv
  obtain ⟨rfl, hsz, hP, hK, hD0, hN, hAK⟩ := hv
  have hx := B.exec
  have hb := B.bytes
  have hr := B.returns
  have hts := atoms_spec (ws := wsX3_init) B.pre
  have hown : s.vm.findClass RX3 = some m.cls := findClass_of_methodNamed B.named
  have hlocks := B.notSynchronized
  have hin : meth.name = "<init>" := (name_of_methodNamed B.named B.method).1
  subst hsz
  have hD := hD0.self (sz := s.heap.size)
  generalize hAe : va_A ([(a0, .inr (2, [.null, .int (nI (0)), .int (nI (0)), .int (nI (0)), .int (nI (0)), .int (nI (0)), .null, .null, .null, .null, .null, .null, .null]))] : va_W) s.heap.size = A at hD ⊢
  have hA : ∀ q : Nat, s.heap.size ≤ q → A q := fun q h => by rw [← hAe]; exact Or.inr h
  have hS : va_S A s.heap s.heap [] := va_S.rf
  have hl := lv_entry ([.ref a0]) (n := 1) (Nat.le_of_ble_eq_true rfl)
  rw [lg_entry_eq]
  generalize (lg_sl ([.ref a0]) ++ List.replicate (1 - (lg_sl ([.ref a0])).length) Slot.unset).toArray = ls at hl ⊢
  have hl : lv_has ls 1 [(0, .ref a0)] := hl
  refine lv_aload_n hx hb dX3_init_0 rfl (lv_at hl 0 rfl) ?_
  refine W.objInit hx hb hown (hts (.methodLink RX3 1 objectInit) (List.mem_of_getElem? (i := 1) rfl)) (hts (.instanceMethod objectInit) (List.mem_of_getElem? (i := 2) rfl)) (hts (.code objectInit ⟨#[0xb1]⟩ 1 none) (List.mem_of_getElem? (i := 3) rfl)) rfl (by rw [hml]; exact hl.1) rfl dX3_init_1 (Nat.le_of_ble_eq_true rfl) (Nat.le_of_ble_eq_true rfl) ?_
  refine W.eq (g2 := F0 m 4 ls []) rfl ?_
  refine lv_aload_n hx hb dX3_init_4 rfl (lv_at hl 0 rfl) ?_
  refine va_new (ci := 1) (fs := [.null, .null, .int (nI (0))]) (C := RX2) (T := TX2) (N := 3) hx hb hts iwX3_init_X2 tyX2 tyX2_ok hown (hts (.classLink RX3 7 RX2) (List.mem_of_getElem? (i := 4) rfl)) (hts (.instantiable RX2 3) (List.mem_of_getElem? (i := 5) rfl)) (hts (.initialized RX2) (List.mem_of_getElem? (i := 6) rfl)) hK hP hD hS hA rfl (fun j hj => by rcases (show j = 0 ∨ j = 1 ∨ j = 2 by omega) with rfl | rfl | rfl <;> rfl) (by decide) (by decide) dX3_init_5 (fun q5 H hP hD hS => ?_)
  have hP : va_P D vwCl ([(a0, .inr (2, [.null, .int (nI (0)), .int (nI (0)), .int (nI (0)), .int (nI (0)), .int (nI (0)), .null, .null, .null, .null, .null, .null, .null])), (q5, .inr (1, [.null, .null, .int (nI (0))]))] : va_W) H := hP
  have hD : va_D A ([(a0, .inr (2, [.null, .int (nI (0)), .int (nI (0)), .int (nI (0)), .int (nI (0)), .int (nI (0)), .null, .null, .null, .null, .null, .null, .null])), (q5, .inr (1, [.null, .null, .int (nI (0))]))] : va_W) := hD
  refine lv_dup hx hb dX3_init_8 rfl ?_
  have hPc := hP.sub (ws' := ([(q5, .inr (1, [.null, .null, .int (nI (0))]))] : va_W)) [1] rfl
  have hDc := hD.sub (ws' := ([(q5, .inr (1, [.null, .null, .int (nI (0))]))] : va_W)) [1] (by decide) rfl
  refine q_cv (wc := ([(q5, .inr (1, [.null, .null, .int (nI (0))]))] : va_W)) (wr := (([0] : List Nat).filterMap (fun i => ([(a0, .inr (2, [.null, .int (nI (0)), .int (nI (0)), .int (nI (0)), .int (nI (0)), .int (nI (0)), .null, .null, .null, .null, .null, .null, .null])), (q5, .inr (1, [.null, .null, .int (nI (0))]))] : va_W)[i]?))) (w1 := fun u : Nat × Nat => wPt cI ((q5)) u.1 u.2 0 (fun _ => 0) (fun _ => 0)) (va_runIN (As := []) (rest := [.ref (q5), .ref (a0)]) ⟨hx, hb, hml, hown, hts⟩ (c_X2_init l D cI cZ cQ cL q5 H.size) ⟨va_cnB 0 hts gX3_init_X2_init_n9 rfl rfl rfl (hN _ (List.mem_of_getElem? (i := 0) rfl)) (hts (.initialized RX2) (List.mem_of_getElem? (i := 6) rfl)) hd_X2_init ⟨Nat.le_of_ble_eq_true rfl, Nat.le_of_ble_eq_true rfl⟩, rfl, (hts (.instanceMethod yX2_init) (List.mem_of_getElem? (i := 20) rfl))⟩ (PW_s hPc hK hDc hN) rfl rfl hl.1 rfl (lv_room (Nat.le_of_ble_eq_true rfl)) dX3_init_9 ⟨by decide, by decide⟩) hP hD hS hA [1] [0] rfl rfl (by decide) (by decide) (fun u_9 H locs h_9 hP hD hS => ?_)
  obtain ⟨pa9, pb9⟩ := u_9
  have hP : va_P D vwCl ([(a0, .inr (2, [.null, .int (nI (0)), .int (nI (0)), .int (nI (0)), .int (nI (0)), .int (nI (0)), .null, .null, .null, .null, .null, .null, .null])), (q5, .inr (1, [.ref (pa9), .ref (pb9), .int (nI (0))])), (pa9, .inl (cI, 8, .inl (bF (fun _ => 0)))), (pb9, .inl (cI, 8, .inl (bF (fun _ => 0))))] : va_W) H := hP
  have hD : va_D A ([(a0, .inr (2, [.null, .int (nI (0)), .int (nI (0)), .int (nI (0)), .int (nI (0)), .int (nI (0)), .null, .null, .null, .null, .null, .null, .null])), (q5, .inr (1, [.ref (pa9), .ref (pb9), .int (nI (0))])), (pa9, .inl (cI, 8, .inl (bF (fun _ => 0)))), (pb9, .inl (cI, 8, .inl (bF (fun _ => 0))))] : va_W) := hD
  refine va_putF (D := D) (ci := 2) (v := .ref (q5)) (ty := .object "RepairSender$Points") (C := RX3) (T := TX3) (N := 13) hx hb hts iwX3_init_X3 tyX3 tyX3_ok nmX3 hown hK hP hD hS 0 rfl rfl 0 (by decide) (hts (.fieldLink RX3 10 "RepairSender" "block" "LRepairSender$Points;") (List.mem_of_getElem? (i := 7) rfl)) (fun _ h9 => h9) rfl hin rfl (by decide +kernel) rfl rfl (Nat.le_of_ble_eq_true rfl) dX3_init_12 (fun H locs hP hD hS => ?_)
  have hP : va_P D vwCl ([(a0, .inr (2, [.ref (q5), .int (nI (0)), .int (nI (0)), .int (nI (0)), .int (nI (0)), .int (nI (0)), .null, .null, .null, .null, .null, .null, .null])), (q5, .inr (1, [.ref (pa9), .ref (pb9), .int (nI (0))])), (pa9, .inl (cI, 8, .inl (bF (fun _ => 0)))), (pb9, .inl (cI, 8, .inl (bF (fun _ => 0))))] : va_W) H := hP
  have hD : va_D A ([(a0, .inr (2, [.ref (q5), .int (nI (0)), .int (nI (0)), .int (nI (0)), .int (nI (0)), .int (nI (0)), .null, .null, .null, .null, .null, .null, .null])), (q5, .inr (1, [.ref (pa9), .ref (pb9), .int (nI (0))])), (pa9, .inl (cI, 8, .inl (bF (fun _ => 0)))), (pb9, .inl (cI, 8, .inl (bF (fun _ => 0))))] : va_W) := hD
  refine lv_aload_n hx hb dX3_init_15 rfl (lv_at hl 0 rfl) ?_
  refine lv_bipush (v := nI (6)) hx hb dX3_init_16 (by decide) ?_
  refine va_newa (atype := .int) hx hb (hts (.arrayClass .int) (List.mem_of_getElem? (i := 8) rfl)) rfl hK hP hD hS hA (a0 := (6, .inl (nF (fun _ => 0)))) (fun c9 => nF0 c9 6) (by decide) (by decide) (by decide) (by decide) (by decide) dX3_init_18 (fun q18 cA H hK2 hP hD hS => ?_)
  have eA : cI = cA := (tys_I hK hK2).symm
  subst eA
  have hP : va_P D vwCl ([(a0, .inr (2, [.ref (q5), .int (nI (0)), .int (nI (0)), .int (nI (0)), .int (nI (0)), .int (nI (0)), .null, .null, .null, .null, .null, .null, .null])), (q5, .inr (1, [.ref (pa9), .ref (pb9), .int (nI (0))])), (pa9, .inl (cI, 8, .inl (bF (fun _ => 0)))), (pb9, .inl (cI, 8, .inl (bF (fun _ => 0)))), (q18, .inl (cI, 6, .inl (nF (fun _ => 0))))] : va_W) H := hP
  have hD : va_D A ([(a0, .inr (2, [.ref (q5), .int (nI (0)), .int (nI (0)), .int (nI (0)), .int (nI (0)), .int (nI (0)), .null, .null, .null, .null, .null, .null, .null])), (q5, .inr (1, [.ref (pa9), .ref (pb9), .int (nI (0))])), (pa9, .inl (cI, 8, .inl (bF (fun _ => 0)))), (pb9, .inl (cI, 8, .inl (bF (fun _ => 0)))), (q18, .inl (cI, 6, .inl (nF (fun _ => 0))))] : va_W) := hD
  refine va_putF (D := D) (ci := 2) (v := .ref (q18)) (ty := .array .int) (C := RX3) (T := TX3) (N := 13) hx hb hts iwX3_init_X3 tyX3 tyX3_ok nmX3 hown hK hP hD hS 0 rfl rfl 6 (by decide) (hts (.fieldLink RX3 16 "RepairSender" "losses" "[I") (List.mem_of_getElem? (i := 9) rfl)) (fun _ h9 => h9) rfl hin rfl (by decide +kernel) rfl rfl (Nat.le_of_ble_eq_true rfl) dX3_init_20 (fun H locs hP hD hS => ?_)
  have hP : va_P D vwCl ([(a0, .inr (2, [.ref (q5), .int (nI (0)), .int (nI (0)), .int (nI (0)), .int (nI (0)), .int (nI (0)), .ref (q18), .null, .null, .null, .null, .null, .null])), (q5, .inr (1, [.ref (pa9), .ref (pb9), .int (nI (0))])), (pa9, .inl (cI, 8, .inl (bF (fun _ => 0)))), (pb9, .inl (cI, 8, .inl (bF (fun _ => 0)))), (q18, .inl (cI, 6, .inl (nF (fun _ => 0))))] : va_W) H := hP
  have hD : va_D A ([(a0, .inr (2, [.ref (q5), .int (nI (0)), .int (nI (0)), .int (nI (0)), .int (nI (0)), .int (nI (0)), .ref (q18), .null, .null, .null, .null, .null, .null])), (q5, .inr (1, [.ref (pa9), .ref (pb9), .int (nI (0))])), (pa9, .inl (cI, 8, .inl (bF (fun _ => 0)))), (pb9, .inl (cI, 8, .inl (bF (fun _ => 0)))), (q18, .inl (cI, 6, .inl (nF (fun _ => 0))))] : va_W) := hD
  refine lv_aload_n hx hb dX3_init_23 rfl (lv_at hl 0 rfl) ?_
  refine lv_bipush (v := nI (6)) hx hb dX3_init_24 (by decide) ?_
  refine va_newa (atype := .int) hx hb (hts (.arrayClass .int) (List.mem_of_getElem? (i := 8) rfl)) rfl hK hP hD hS hA (a0 := (6, .inl (nF (fun _ => 0)))) (fun c9 => nF0 c9 6) (by decide) (by decide) (by decide) (by decide) (by decide) dX3_init_26 (fun q26 cA H hK2 hP hD hS => ?_)
  have eA : cI = cA := (tys_I hK hK2).symm
  subst eA
  have hP : va_P D vwCl ([(a0, .inr (2, [.ref (q5), .int (nI (0)), .int (nI (0)), .int (nI (0)), .int (nI (0)), .int (nI (0)), .ref (q18), .null, .null, .null, .null, .null, .null])), (q5, .inr (1, [.ref (pa9), .ref (pb9), .int (nI (0))])), (pa9, .inl (cI, 8, .inl (bF (fun _ => 0)))), (pb9, .inl (cI, 8, .inl (bF (fun _ => 0)))), (q18, .inl (cI, 6, .inl (nF (fun _ => 0)))), (q26, .inl (cI, 6, .inl (nF (fun _ => 0))))] : va_W) H := hP
  have hD : va_D A ([(a0, .inr (2, [.ref (q5), .int (nI (0)), .int (nI (0)), .int (nI (0)), .int (nI (0)), .int (nI (0)), .ref (q18), .null, .null, .null, .null, .null, .null])), (q5, .inr (1, [.ref (pa9), .ref (pb9), .int (nI (0))])), (pa9, .inl (cI, 8, .inl (bF (fun _ => 0)))), (pb9, .inl (cI, 8, .inl (bF (fun _ => 0)))), (q18, .inl (cI, 6, .inl (nF (fun _ => 0)))), (q26, .inl (cI, 6, .inl (nF (fun _ => 0))))] : va_W) := hD
  refine va_putF (D := D) (ci := 2) (v := .ref (q26)) (ty := .array .int) (C := RX3) (T := TX3) (N := 13) hx hb hts iwX3_init_X3 tyX3 tyX3_ok nmX3 hown hK hP hD hS 0 rfl rfl 7 (by decide) (hts (.fieldLink RX3 20 "RepairSender" "waits" "[I") (List.mem_of_getElem? (i := 10) rfl)) (fun _ h9 => h9) rfl hin rfl (by decide +kernel) rfl rfl (Nat.le_of_ble_eq_true rfl) dX3_init_28 (fun H locs hP hD hS => ?_)
  have hP : va_P D vwCl ([(a0, .inr (2, [.ref (q5), .int (nI (0)), .int (nI (0)), .int (nI (0)), .int (nI (0)), .int (nI (0)), .ref (q18), .ref (q26), .null, .null, .null, .null, .null])), (q5, .inr (1, [.ref (pa9), .ref (pb9), .int (nI (0))])), (pa9, .inl (cI, 8, .inl (bF (fun _ => 0)))), (pb9, .inl (cI, 8, .inl (bF (fun _ => 0)))), (q18, .inl (cI, 6, .inl (nF (fun _ => 0)))), (q26, .inl (cI, 6, .inl (nF (fun _ => 0))))] : va_W) H := hP
  have hD : va_D A ([(a0, .inr (2, [.ref (q5), .int (nI (0)), .int (nI (0)), .int (nI (0)), .int (nI (0)), .int (nI (0)), .ref (q18), .ref (q26), .null, .null, .null, .null, .null])), (q5, .inr (1, [.ref (pa9), .ref (pb9), .int (nI (0))])), (pa9, .inl (cI, 8, .inl (bF (fun _ => 0)))), (pb9, .inl (cI, 8, .inl (bF (fun _ => 0)))), (q18, .inl (cI, 6, .inl (nF (fun _ => 0)))), (q26, .inl (cI, 6, .inl (nF (fun _ => 0))))] : va_W) := hD
  refine lv_aload_n hx hb dX3_init_31 rfl (lv_at hl 0 rfl) ?_
  refine lv_bipush (v := nI (6)) hx hb dX3_init_32 (by decide) ?_
  refine va_newa (atype := .int) hx hb (hts (.arrayClass .int) (List.mem_of_getElem? (i := 8) rfl)) rfl hK hP hD hS hA (a0 := (6, .inl (nF (fun _ => 0)))) (fun c9 => nF0 c9 6) (by decide) (by decide) (by decide) (by decide) (by decide) dX3_init_34 (fun q34 cA H hK2 hP hD hS => ?_)
  have eA : cI = cA := (tys_I hK hK2).symm
  subst eA
  have hP : va_P D vwCl ([(a0, .inr (2, [.ref (q5), .int (nI (0)), .int (nI (0)), .int (nI (0)), .int (nI (0)), .int (nI (0)), .ref (q18), .ref (q26), .null, .null, .null, .null, .null])), (q5, .inr (1, [.ref (pa9), .ref (pb9), .int (nI (0))])), (pa9, .inl (cI, 8, .inl (bF (fun _ => 0)))), (pb9, .inl (cI, 8, .inl (bF (fun _ => 0)))), (q18, .inl (cI, 6, .inl (nF (fun _ => 0)))), (q26, .inl (cI, 6, .inl (nF (fun _ => 0)))), (q34, .inl (cI, 6, .inl (nF (fun _ => 0))))] : va_W) H := hP
  have hD : va_D A ([(a0, .inr (2, [.ref (q5), .int (nI (0)), .int (nI (0)), .int (nI (0)), .int (nI (0)), .int (nI (0)), .ref (q18), .ref (q26), .null, .null, .null, .null, .null])), (q5, .inr (1, [.ref (pa9), .ref (pb9), .int (nI (0))])), (pa9, .inl (cI, 8, .inl (bF (fun _ => 0)))), (pb9, .inl (cI, 8, .inl (bF (fun _ => 0)))), (q18, .inl (cI, 6, .inl (nF (fun _ => 0)))), (q26, .inl (cI, 6, .inl (nF (fun _ => 0)))), (q34, .inl (cI, 6, .inl (nF (fun _ => 0))))] : va_W) := hD
  refine va_putF (D := D) (ci := 2) (v := .ref (q34)) (ty := .array .int) (C := RX3) (T := TX3) (N := 13) hx hb hts iwX3_init_X3 tyX3 tyX3_ok nmX3 hown hK hP hD hS 0 rfl rfl 8 (by decide) (hts (.fieldLink RX3 23 "RepairSender" "packetSets" "[I") (List.mem_of_getElem? (i := 11) rfl)) (fun _ h9 => h9) rfl hin rfl (by decide +kernel) rfl rfl (Nat.le_of_ble_eq_true rfl) dX3_init_36 (fun H locs hP hD hS => ?_)
  have hP : va_P D vwCl ([(a0, .inr (2, [.ref (q5), .int (nI (0)), .int (nI (0)), .int (nI (0)), .int (nI (0)), .int (nI (0)), .ref (q18), .ref (q26), .ref (q34), .null, .null, .null, .null])), (q5, .inr (1, [.ref (pa9), .ref (pb9), .int (nI (0))])), (pa9, .inl (cI, 8, .inl (bF (fun _ => 0)))), (pb9, .inl (cI, 8, .inl (bF (fun _ => 0)))), (q18, .inl (cI, 6, .inl (nF (fun _ => 0)))), (q26, .inl (cI, 6, .inl (nF (fun _ => 0)))), (q34, .inl (cI, 6, .inl (nF (fun _ => 0))))] : va_W) H := hP
  have hD : va_D A ([(a0, .inr (2, [.ref (q5), .int (nI (0)), .int (nI (0)), .int (nI (0)), .int (nI (0)), .int (nI (0)), .ref (q18), .ref (q26), .ref (q34), .null, .null, .null, .null])), (q5, .inr (1, [.ref (pa9), .ref (pb9), .int (nI (0))])), (pa9, .inl (cI, 8, .inl (bF (fun _ => 0)))), (pb9, .inl (cI, 8, .inl (bF (fun _ => 0)))), (q18, .inl (cI, 6, .inl (nF (fun _ => 0)))), (q26, .inl (cI, 6, .inl (nF (fun _ => 0)))), (q34, .inl (cI, 6, .inl (nF (fun _ => 0))))] : va_W) := hD
  refine lv_aload_n hx hb dX3_init_39 rfl (lv_at hl 0 rfl) ?_
  refine lv_bipush (v := nI (6)) hx hb dX3_init_40 (by decide) ?_
  refine va_newa (atype := .int) hx hb (hts (.arrayClass .int) (List.mem_of_getElem? (i := 8) rfl)) rfl hK hP hD hS hA (a0 := (6, .inl (nF (fun _ => 0)))) (fun c9 => nF0 c9 6) (by decide) (by decide) (by decide) (by decide) (by decide) dX3_init_42 (fun q42 cA H hK2 hP hD hS => ?_)
  have eA : cI = cA := (tys_I hK hK2).symm
  subst eA
  have hP : va_P D vwCl ([(a0, .inr (2, [.ref (q5), .int (nI (0)), .int (nI (0)), .int (nI (0)), .int (nI (0)), .int (nI (0)), .ref (q18), .ref (q26), .ref (q34), .null, .null, .null, .null])), (q5, .inr (1, [.ref (pa9), .ref (pb9), .int (nI (0))])), (pa9, .inl (cI, 8, .inl (bF (fun _ => 0)))), (pb9, .inl (cI, 8, .inl (bF (fun _ => 0)))), (q18, .inl (cI, 6, .inl (nF (fun _ => 0)))), (q26, .inl (cI, 6, .inl (nF (fun _ => 0)))), (q34, .inl (cI, 6, .inl (nF (fun _ => 0)))), (q42, .inl (cI, 6, .inl (nF (fun _ => 0))))] : va_W) H := hP
  have hD : va_D A ([(a0, .inr (2, [.ref (q5), .int (nI (0)), .int (nI (0)), .int (nI (0)), .int (nI (0)), .int (nI (0)), .ref (q18), .ref (q26), .ref (q34), .null, .null, .null, .null])), (q5, .inr (1, [.ref (pa9), .ref (pb9), .int (nI (0))])), (pa9, .inl (cI, 8, .inl (bF (fun _ => 0)))), (pb9, .inl (cI, 8, .inl (bF (fun _ => 0)))), (q18, .inl (cI, 6, .inl (nF (fun _ => 0)))), (q26, .inl (cI, 6, .inl (nF (fun _ => 0)))), (q34, .inl (cI, 6, .inl (nF (fun _ => 0)))), (q42, .inl (cI, 6, .inl (nF (fun _ => 0))))] : va_W) := hD
  refine va_putF (D := D) (ci := 2) (v := .ref (q42)) (ty := .array .int) (C := RX3) (T := TX3) (N := 13) hx hb hts iwX3_init_X3 tyX3 tyX3_ok nmX3 hown hK hP hD hS 0 rfl rfl 9 (by decide) (hts (.fieldLink RX3 26 "RepairSender" "badCounts" "[I") (List.mem_of_getElem? (i := 12) rfl)) (fun _ h9 => h9) rfl hin rfl (by decide +kernel) rfl rfl (Nat.le_of_ble_eq_true rfl) dX3_init_44 (fun H locs hP hD hS => ?_)
  have hP : va_P D vwCl ([(a0, .inr (2, [.ref (q5), .int (nI (0)), .int (nI (0)), .int (nI (0)), .int (nI (0)), .int (nI (0)), .ref (q18), .ref (q26), .ref (q34), .ref (q42), .null, .null, .null])), (q5, .inr (1, [.ref (pa9), .ref (pb9), .int (nI (0))])), (pa9, .inl (cI, 8, .inl (bF (fun _ => 0)))), (pb9, .inl (cI, 8, .inl (bF (fun _ => 0)))), (q18, .inl (cI, 6, .inl (nF (fun _ => 0)))), (q26, .inl (cI, 6, .inl (nF (fun _ => 0)))), (q34, .inl (cI, 6, .inl (nF (fun _ => 0)))), (q42, .inl (cI, 6, .inl (nF (fun _ => 0))))] : va_W) H := hP
  have hD : va_D A ([(a0, .inr (2, [.ref (q5), .int (nI (0)), .int (nI (0)), .int (nI (0)), .int (nI (0)), .int (nI (0)), .ref (q18), .ref (q26), .ref (q34), .ref (q42), .null, .null, .null])), (q5, .inr (1, [.ref (pa9), .ref (pb9), .int (nI (0))])), (pa9, .inl (cI, 8, .inl (bF (fun _ => 0)))), (pb9, .inl (cI, 8, .inl (bF (fun _ => 0)))), (q18, .inl (cI, 6, .inl (nF (fun _ => 0)))), (q26, .inl (cI, 6, .inl (nF (fun _ => 0)))), (q34, .inl (cI, 6, .inl (nF (fun _ => 0)))), (q42, .inl (cI, 6, .inl (nF (fun _ => 0))))] : va_W) := hD
  refine lv_aload_n hx hb dX3_init_47 rfl (lv_at hl 0 rfl) ?_
  refine lv_bipush (v := nI (6)) hx hb dX3_init_48 (by decide) ?_
  refine va_newa (atype := .boolean) hx hb (hts (.arrayClass .boolean) (List.mem_of_getElem? (i := 13) rfl)) rfl hK hP hD hS hA (a0 := (6, .inl (nF (fun _ => 0)))) (fun c9 => nZ0 c9 6) (by decide) (by decide) (by decide) (by decide) (by decide) dX3_init_50 (fun q50 cA H hK2 hP hD hS => ?_)
  have eA : cZ = cA := (tys_Z hK hK2).symm
  subst eA
  have hP : va_P D vwCl ([(a0, .inr (2, [.ref (q5), .int (nI (0)), .int (nI (0)), .int (nI (0)), .int (nI (0)), .int (nI (0)), .ref (q18), .ref (q26), .ref (q34), .ref (q42), .null, .null, .null])), (q5, .inr (1, [.ref (pa9), .ref (pb9), .int (nI (0))])), (pa9, .inl (cI, 8, .inl (bF (fun _ => 0)))), (pb9, .inl (cI, 8, .inl (bF (fun _ => 0)))), (q18, .inl (cI, 6, .inl (nF (fun _ => 0)))), (q26, .inl (cI, 6, .inl (nF (fun _ => 0)))), (q34, .inl (cI, 6, .inl (nF (fun _ => 0)))), (q42, .inl (cI, 6, .inl (nF (fun _ => 0)))), (q50, .inl (cZ, 6, .inl (nF (fun _ => 0))))] : va_W) H := hP
  have hD : va_D A ([(a0, .inr (2, [.ref (q5), .int (nI (0)), .int (nI (0)), .int (nI (0)), .int (nI (0)), .int (nI (0)), .ref (q18), .ref (q26), .ref (q34), .ref (q42), .null, .null, .null])), (q5, .inr (1, [.ref (pa9), .ref (pb9), .int (nI (0))])), (pa9, .inl (cI, 8, .inl (bF (fun _ => 0)))), (pb9, .inl (cI, 8, .inl (bF (fun _ => 0)))), (q18, .inl (cI, 6, .inl (nF (fun _ => 0)))), (q26, .inl (cI, 6, .inl (nF (fun _ => 0)))), (q34, .inl (cI, 6, .inl (nF (fun _ => 0)))), (q42, .inl (cI, 6, .inl (nF (fun _ => 0)))), (q50, .inl (cZ, 6, .inl (nF (fun _ => 0))))] : va_W) := hD
  refine va_putF (D := D) (ci := 2) (v := .ref (q50)) (ty := .array .boolean) (C := RX3) (T := TX3) (N := 13) hx hb hts iwX3_init_X3 tyX3 tyX3_ok nmX3 hown hK hP hD hS 0 rfl rfl 10 (by decide) (hts (.fieldLink RX3 29 "RepairSender" "dropped" "[Z") (List.mem_of_getElem? (i := 14) rfl)) (fun _ h9 => h9) rfl hin rfl (by decide +kernel) rfl rfl (Nat.le_of_ble_eq_true rfl) dX3_init_52 (fun H locs hP hD hS => ?_)
  have hP : va_P D vwCl ([(a0, .inr (2, [.ref (q5), .int (nI (0)), .int (nI (0)), .int (nI (0)), .int (nI (0)), .int (nI (0)), .ref (q18), .ref (q26), .ref (q34), .ref (q42), .ref (q50), .null, .null])), (q5, .inr (1, [.ref (pa9), .ref (pb9), .int (nI (0))])), (pa9, .inl (cI, 8, .inl (bF (fun _ => 0)))), (pb9, .inl (cI, 8, .inl (bF (fun _ => 0)))), (q18, .inl (cI, 6, .inl (nF (fun _ => 0)))), (q26, .inl (cI, 6, .inl (nF (fun _ => 0)))), (q34, .inl (cI, 6, .inl (nF (fun _ => 0)))), (q42, .inl (cI, 6, .inl (nF (fun _ => 0)))), (q50, .inl (cZ, 6, .inl (nF (fun _ => 0))))] : va_W) H := hP
  have hD : va_D A ([(a0, .inr (2, [.ref (q5), .int (nI (0)), .int (nI (0)), .int (nI (0)), .int (nI (0)), .int (nI (0)), .ref (q18), .ref (q26), .ref (q34), .ref (q42), .ref (q50), .null, .null])), (q5, .inr (1, [.ref (pa9), .ref (pb9), .int (nI (0))])), (pa9, .inl (cI, 8, .inl (bF (fun _ => 0)))), (pb9, .inl (cI, 8, .inl (bF (fun _ => 0)))), (q18, .inl (cI, 6, .inl (nF (fun _ => 0)))), (q26, .inl (cI, 6, .inl (nF (fun _ => 0)))), (q34, .inl (cI, 6, .inl (nF (fun _ => 0)))), (q42, .inl (cI, 6, .inl (nF (fun _ => 0)))), (q50, .inl (cZ, 6, .inl (nF (fun _ => 0))))] : va_W) := hD
  refine lv_aload_n hx hb dX3_init_55 rfl (lv_at hl 0 rfl) ?_
  refine va_new (ci := 1) (fs := [.null, .null, .int (nI (0))]) (C := RX2) (T := TX2) (N := 3) hx hb hts iwX3_init_X2 tyX2 tyX2_ok hown (hts (.classLink RX3 7 RX2) (List.mem_of_getElem? (i := 4) rfl)) (hts (.instantiable RX2 3) (List.mem_of_getElem? (i := 5) rfl)) (hts (.initialized RX2) (List.mem_of_getElem? (i := 6) rfl)) hK hP hD hS hA rfl (fun j hj => by rcases (show j = 0 ∨ j = 1 ∨ j = 2 by omega) with rfl | rfl | rfl <;> rfl) (by decide) (by decide) dX3_init_56 (fun q56 H hP hD hS => ?_)
  have hP : va_P D vwCl ([(a0, .inr (2, [.ref (q5), .int (nI (0)), .int (nI (0)), .int (nI (0)), .int (nI (0)), .int (nI (0)), .ref (q18), .ref (q26), .ref (q34), .ref (q42), .ref (q50), .null, .null])), (q5, .inr (1, [.ref (pa9), .ref (pb9), .int (nI (0))])), (pa9, .inl (cI, 8, .inl (bF (fun _ => 0)))), (pb9, .inl (cI, 8, .inl (bF (fun _ => 0)))), (q18, .inl (cI, 6, .inl (nF (fun _ => 0)))), (q26, .inl (cI, 6, .inl (nF (fun _ => 0)))), (q34, .inl (cI, 6, .inl (nF (fun _ => 0)))), (q42, .inl (cI, 6, .inl (nF (fun _ => 0)))), (q50, .inl (cZ, 6, .inl (nF (fun _ => 0)))), (q56, .inr (1, [.null, .null, .int (nI (0))]))] : va_W) H := hP
  have hD : va_D A ([(a0, .inr (2, [.ref (q5), .int (nI (0)), .int (nI (0)), .int (nI (0)), .int (nI (0)), .int (nI (0)), .ref (q18), .ref (q26), .ref (q34), .ref (q42), .ref (q50), .null, .null])), (q5, .inr (1, [.ref (pa9), .ref (pb9), .int (nI (0))])), (pa9, .inl (cI, 8, .inl (bF (fun _ => 0)))), (pb9, .inl (cI, 8, .inl (bF (fun _ => 0)))), (q18, .inl (cI, 6, .inl (nF (fun _ => 0)))), (q26, .inl (cI, 6, .inl (nF (fun _ => 0)))), (q34, .inl (cI, 6, .inl (nF (fun _ => 0)))), (q42, .inl (cI, 6, .inl (nF (fun _ => 0)))), (q50, .inl (cZ, 6, .inl (nF (fun _ => 0)))), (q56, .inr (1, [.null, .null, .int (nI (0))]))] : va_W) := hD
  refine lv_dup hx hb dX3_init_59 rfl ?_
  have hPc := hP.sub (ws' := ([(q56, .inr (1, [.null, .null, .int (nI (0))]))] : va_W)) [9] rfl
  have hDc := hD.sub (ws' := ([(q56, .inr (1, [.null, .null, .int (nI (0))]))] : va_W)) [9] (by decide) rfl
  refine q_cv (wc := ([(q56, .inr (1, [.null, .null, .int (nI (0))]))] : va_W)) (wr := (([0, 1, 2, 3, 4, 5, 6, 7, 8] : List Nat).filterMap (fun i => ([(a0, .inr (2, [.ref (q5), .int (nI (0)), .int (nI (0)), .int (nI (0)), .int (nI (0)), .int (nI (0)), .ref (q18), .ref (q26), .ref (q34), .ref (q42), .ref (q50), .null, .null])), (q5, .inr (1, [.ref (pa9), .ref (pb9), .int (nI (0))])), (pa9, .inl (cI, 8, .inl (bF (fun _ => 0)))), (pb9, .inl (cI, 8, .inl (bF (fun _ => 0)))), (q18, .inl (cI, 6, .inl (nF (fun _ => 0)))), (q26, .inl (cI, 6, .inl (nF (fun _ => 0)))), (q34, .inl (cI, 6, .inl (nF (fun _ => 0)))), (q42, .inl (cI, 6, .inl (nF (fun _ => 0)))), (q50, .inl (cZ, 6, .inl (nF (fun _ => 0)))), (q56, .inr (1, [.null, .null, .int (nI (0))]))] : va_W)[i]?))) (w1 := fun u : Nat × Nat => wPt cI ((q56)) u.1 u.2 0 (fun _ => 0) (fun _ => 0)) (va_runIN (As := []) (rest := [.ref (q56), .ref (a0)]) ⟨hx, hb, hml, hown, hts⟩ (c_X2_init l D cI cZ cQ cL q56 H.size) ⟨va_cnB 0 hts gX3_init_X2_init_n9 rfl rfl rfl (hN _ (List.mem_of_getElem? (i := 0) rfl)) (hts (.initialized RX2) (List.mem_of_getElem? (i := 6) rfl)) hd_X2_init ⟨Nat.le_of_ble_eq_true rfl, Nat.le_of_ble_eq_true rfl⟩, rfl, (hts (.instanceMethod yX2_init) (List.mem_of_getElem? (i := 20) rfl))⟩ (PW_s hPc hK hDc hN) rfl rfl hl.1 rfl (lv_room (Nat.le_of_ble_eq_true rfl)) dX3_init_60 ⟨by decide, by decide⟩) hP hD hS hA [9] [0, 1, 2, 3, 4, 5, 6, 7, 8] rfl rfl (by decide) (by decide) (fun u_60 H locs h_60 hP hD hS => ?_)
  obtain ⟨pa60, pb60⟩ := u_60
  have hP : va_P D vwCl ([(a0, .inr (2, [.ref (q5), .int (nI (0)), .int (nI (0)), .int (nI (0)), .int (nI (0)), .int (nI (0)), .ref (q18), .ref (q26), .ref (q34), .ref (q42), .ref (q50), .null, .null])), (q5, .inr (1, [.ref (pa9), .ref (pb9), .int (nI (0))])), (pa9, .inl (cI, 8, .inl (bF (fun _ => 0)))), (pb9, .inl (cI, 8, .inl (bF (fun _ => 0)))), (q18, .inl (cI, 6, .inl (nF (fun _ => 0)))), (q26, .inl (cI, 6, .inl (nF (fun _ => 0)))), (q34, .inl (cI, 6, .inl (nF (fun _ => 0)))), (q42, .inl (cI, 6, .inl (nF (fun _ => 0)))), (q50, .inl (cZ, 6, .inl (nF (fun _ => 0)))), (q56, .inr (1, [.ref (pa60), .ref (pb60), .int (nI (0))])), (pa60, .inl (cI, 8, .inl (bF (fun _ => 0)))), (pb60, .inl (cI, 8, .inl (bF (fun _ => 0))))] : va_W) H := hP
  have hD : va_D A ([(a0, .inr (2, [.ref (q5), .int (nI (0)), .int (nI (0)), .int (nI (0)), .int (nI (0)), .int (nI (0)), .ref (q18), .ref (q26), .ref (q34), .ref (q42), .ref (q50), .null, .null])), (q5, .inr (1, [.ref (pa9), .ref (pb9), .int (nI (0))])), (pa9, .inl (cI, 8, .inl (bF (fun _ => 0)))), (pb9, .inl (cI, 8, .inl (bF (fun _ => 0)))), (q18, .inl (cI, 6, .inl (nF (fun _ => 0)))), (q26, .inl (cI, 6, .inl (nF (fun _ => 0)))), (q34, .inl (cI, 6, .inl (nF (fun _ => 0)))), (q42, .inl (cI, 6, .inl (nF (fun _ => 0)))), (q50, .inl (cZ, 6, .inl (nF (fun _ => 0)))), (q56, .inr (1, [.ref (pa60), .ref (pb60), .int (nI (0))])), (pa60, .inl (cI, 8, .inl (bF (fun _ => 0)))), (pb60, .inl (cI, 8, .inl (bF (fun _ => 0))))] : va_W) := hD
  refine va_putF (D := D) (ci := 2) (v := .ref (q56)) (ty := .object "RepairSender$Points") (C := RX3) (T := TX3) (N := 13) hx hb hts iwX3_init_X3 tyX3 tyX3_ok nmX3 hown hK hP hD hS 0 rfl rfl 11 (by decide) (hts (.fieldLink RX3 33 "RepairSender" "chosen" "LRepairSender$Points;") (List.mem_of_getElem? (i := 15) rfl)) (fun _ h9 => h9) rfl hin rfl (by decide +kernel) rfl rfl (Nat.le_of_ble_eq_true rfl) dX3_init_63 (fun H locs hP hD hS => ?_)
  have hP : va_P D vwCl ([(a0, .inr (2, [.ref (q5), .int (nI (0)), .int (nI (0)), .int (nI (0)), .int (nI (0)), .int (nI (0)), .ref (q18), .ref (q26), .ref (q34), .ref (q42), .ref (q50), .ref (q56), .null])), (q5, .inr (1, [.ref (pa9), .ref (pb9), .int (nI (0))])), (pa9, .inl (cI, 8, .inl (bF (fun _ => 0)))), (pb9, .inl (cI, 8, .inl (bF (fun _ => 0)))), (q18, .inl (cI, 6, .inl (nF (fun _ => 0)))), (q26, .inl (cI, 6, .inl (nF (fun _ => 0)))), (q34, .inl (cI, 6, .inl (nF (fun _ => 0)))), (q42, .inl (cI, 6, .inl (nF (fun _ => 0)))), (q50, .inl (cZ, 6, .inl (nF (fun _ => 0)))), (q56, .inr (1, [.ref (pa60), .ref (pb60), .int (nI (0))])), (pa60, .inl (cI, 8, .inl (bF (fun _ => 0)))), (pb60, .inl (cI, 8, .inl (bF (fun _ => 0))))] : va_W) H := hP
  have hD : va_D A ([(a0, .inr (2, [.ref (q5), .int (nI (0)), .int (nI (0)), .int (nI (0)), .int (nI (0)), .int (nI (0)), .ref (q18), .ref (q26), .ref (q34), .ref (q42), .ref (q50), .ref (q56), .null])), (q5, .inr (1, [.ref (pa9), .ref (pb9), .int (nI (0))])), (pa9, .inl (cI, 8, .inl (bF (fun _ => 0)))), (pb9, .inl (cI, 8, .inl (bF (fun _ => 0)))), (q18, .inl (cI, 6, .inl (nF (fun _ => 0)))), (q26, .inl (cI, 6, .inl (nF (fun _ => 0)))), (q34, .inl (cI, 6, .inl (nF (fun _ => 0)))), (q42, .inl (cI, 6, .inl (nF (fun _ => 0)))), (q50, .inl (cZ, 6, .inl (nF (fun _ => 0)))), (q56, .inr (1, [.ref (pa60), .ref (pb60), .int (nI (0))])), (pa60, .inl (cI, 8, .inl (bF (fun _ => 0)))), (pb60, .inl (cI, 8, .inl (bF (fun _ => 0))))] : va_W) := hD
  refine lv_aload_n hx hb dX3_init_66 rfl (lv_at hl 0 rfl) ?_
  refine va_new (ci := 0) (fs := [.null, .int (nI (0))]) (C := RX0) (T := TX0) (N := 2) hx hb hts iwX3_init_X0 tyX0 tyX0_ok hown (hts (.classLink RX3 36 RX0) (List.mem_of_getElem? (i := 16) rfl)) (hts (.instantiable RX0 2) (List.mem_of_getElem? (i := 17) rfl)) (hts (.initialized RX0) (List.mem_of_getElem? (i := 18) rfl)) hK hP hD hS hA rfl (fun j hj => by rcases (show j = 0 ∨ j = 1 by omega) with rfl | rfl <;> rfl) (by decide) (by decide) dX3_init_67 (fun q67 H hP hD hS => ?_)
  have hP : va_P D vwCl ([(a0, .inr (2, [.ref (q5), .int (nI (0)), .int (nI (0)), .int (nI (0)), .int (nI (0)), .int (nI (0)), .ref (q18), .ref (q26), .ref (q34), .ref (q42), .ref (q50), .ref (q56), .null])), (q5, .inr (1, [.ref (pa9), .ref (pb9), .int (nI (0))])), (pa9, .inl (cI, 8, .inl (bF (fun _ => 0)))), (pb9, .inl (cI, 8, .inl (bF (fun _ => 0)))), (q18, .inl (cI, 6, .inl (nF (fun _ => 0)))), (q26, .inl (cI, 6, .inl (nF (fun _ => 0)))), (q34, .inl (cI, 6, .inl (nF (fun _ => 0)))), (q42, .inl (cI, 6, .inl (nF (fun _ => 0)))), (q50, .inl (cZ, 6, .inl (nF (fun _ => 0)))), (q56, .inr (1, [.ref (pa60), .ref (pb60), .int (nI (0))])), (pa60, .inl (cI, 8, .inl (bF (fun _ => 0)))), (pb60, .inl (cI, 8, .inl (bF (fun _ => 0)))), (q67, .inr (0, [.null, .int (nI (0))]))] : va_W) H := hP
  have hD : va_D A ([(a0, .inr (2, [.ref (q5), .int (nI (0)), .int (nI (0)), .int (nI (0)), .int (nI (0)), .int (nI (0)), .ref (q18), .ref (q26), .ref (q34), .ref (q42), .ref (q50), .ref (q56), .null])), (q5, .inr (1, [.ref (pa9), .ref (pb9), .int (nI (0))])), (pa9, .inl (cI, 8, .inl (bF (fun _ => 0)))), (pb9, .inl (cI, 8, .inl (bF (fun _ => 0)))), (q18, .inl (cI, 6, .inl (nF (fun _ => 0)))), (q26, .inl (cI, 6, .inl (nF (fun _ => 0)))), (q34, .inl (cI, 6, .inl (nF (fun _ => 0)))), (q42, .inl (cI, 6, .inl (nF (fun _ => 0)))), (q50, .inl (cZ, 6, .inl (nF (fun _ => 0)))), (q56, .inr (1, [.ref (pa60), .ref (pb60), .int (nI (0))])), (pa60, .inl (cI, 8, .inl (bF (fun _ => 0)))), (pb60, .inl (cI, 8, .inl (bF (fun _ => 0)))), (q67, .inr (0, [.null, .int (nI (0))]))] : va_W) := hD
  refine lv_dup hx hb dX3_init_70 rfl ?_
  have hPc := hP.sub (ws' := ([(q67, .inr (0, [.null, .int (nI (0))]))] : va_W)) [12] rfl
  have hDc := hD.sub (ws' := ([(q67, .inr (0, [.null, .int (nI (0))]))] : va_W)) [12] (by decide) rfl
  refine q_cv (wc := ([(q67, .inr (0, [.null, .int (nI (0))]))] : va_W)) (wr := (([0, 1, 2, 3, 4, 5, 6, 7, 8, 9, 10, 11] : List Nat).filterMap (fun i => ([(a0, .inr (2, [.ref (q5), .int (nI (0)), .int (nI (0)), .int (nI (0)), .int (nI (0)), .int (nI (0)), .ref (q18), .ref (q26), .ref (q34), .ref (q42), .ref (q50), .ref (q56), .null])), (q5, .inr (1, [.ref (pa9), .ref (pb9), .int (nI (0))])), (pa9, .inl (cI, 8, .inl (bF (fun _ => 0)))), (pb9, .inl (cI, 8, .inl (bF (fun _ => 0)))), (q18, .inl (cI, 6, .inl (nF (fun _ => 0)))), (q26, .inl (cI, 6, .inl (nF (fun _ => 0)))), (q34, .inl (cI, 6, .inl (nF (fun _ => 0)))), (q42, .inl (cI, 6, .inl (nF (fun _ => 0)))), (q50, .inl (cZ, 6, .inl (nF (fun _ => 0)))), (q56, .inr (1, [.ref (pa60), .ref (pb60), .int (nI (0))])), (pa60, .inl (cI, 8, .inl (bF (fun _ => 0)))), (pb60, .inl (cI, 8, .inl (bF (fun _ => 0)))), (q67, .inr (0, [.null, .int (nI (0))]))] : va_W)[i]?))) (w1 := fun u : Nat × (Nat → Nat) => wEq cI cQ ((q67)) u.1 u.2 0 (fun _ _ => 0)) (va_runIN (As := []) (rest := [.ref (q67), .ref (a0)]) ⟨hx, hb, hml, hown, hts⟩ (c_X0_init l D cI cZ cQ cL q67 H.size) ⟨va_cnB 0 hts gX3_init_X0_init_n38 rfl rfl rfl (hN _ (List.mem_of_getElem? (i := 6) rfl)) (hts (.initialized RX0) (List.mem_of_getElem? (i := 18) rfl)) hd_X0_init ⟨Nat.le_of_ble_eq_true rfl, Nat.le_of_ble_eq_true rfl⟩, rfl, (hts (.instanceMethod yX0_init) (List.mem_of_getElem? (i := 25) rfl))⟩ (PA_s hPc hK hDc hN hAK) rfl rfl hl.1 rfl (lv_room (Nat.le_of_ble_eq_true rfl)) dX3_init_71 ⟨by decide, by decide⟩) hP hD hS hA [12] [0, 1, 2, 3, 4, 5, 6, 7, 8, 9, 10, 11] rfl rfl (by decide) (by decide) (fun u_71 H locs h_71 hP hD hS => ?_)
  obtain ⟨ea71, er71⟩ := u_71
  have hP : va_P D vwCl (([(a0, .inr (2, [.ref (q5), .int (nI (0)), .int (nI (0)), .int (nI (0)), .int (nI (0)), .int (nI (0)), .ref (q18), .ref (q26), .ref (q34), .ref (q42), .ref (q50), .ref (q56), .null])), (q5, .inr (1, [.ref (pa9), .ref (pb9), .int (nI (0))])), (pa9, .inl (cI, 8, .inl (bF (fun _ => 0)))), (pb9, .inl (cI, 8, .inl (bF (fun _ => 0)))), (q18, .inl (cI, 6, .inl (nF (fun _ => 0)))), (q26, .inl (cI, 6, .inl (nF (fun _ => 0)))), (q34, .inl (cI, 6, .inl (nF (fun _ => 0)))), (q42, .inl (cI, 6, .inl (nF (fun _ => 0)))), (q50, .inl (cZ, 6, .inl (nF (fun _ => 0)))), (q56, .inr (1, [.ref (pa60), .ref (pb60), .int (nI (0))])), (pa60, .inl (cI, 8, .inl (bF (fun _ => 0)))), (pb60, .inl (cI, 8, .inl (bF (fun _ => 0)))), (q67, .inr (0, [.ref (ea71), .int (nI (0))])), (ea71, .inl (cQ, 8, .inr (.inr (.inr (.inr (fun i => if i < 8 then some (er71 i) else none))))))] : va_W) ++ eqR cI er71 (fun _ _ => 0)) H := hP
  have hD : va_D A (([(a0, .inr (2, [.ref (q5), .int (nI (0)), .int (nI (0)), .int (nI (0)), .int (nI (0)), .int (nI (0)), .ref (q18), .ref (q26), .ref (q34), .ref (q42), .ref (q50), .ref (q56), .null])), (q5, .inr (1, [.ref (pa9), .ref (pb9), .int (nI (0))])), (pa9, .inl (cI, 8, .inl (bF (fun _ => 0)))), (pb9, .inl (cI, 8, .inl (bF (fun _ => 0)))), (q18, .inl (cI, 6, .inl (nF (fun _ => 0)))), (q26, .inl (cI, 6, .inl (nF (fun _ => 0)))), (q34, .inl (cI, 6, .inl (nF (fun _ => 0)))), (q42, .inl (cI, 6, .inl (nF (fun _ => 0)))), (q50, .inl (cZ, 6, .inl (nF (fun _ => 0)))), (q56, .inr (1, [.ref (pa60), .ref (pb60), .int (nI (0))])), (pa60, .inl (cI, 8, .inl (bF (fun _ => 0)))), (pb60, .inl (cI, 8, .inl (bF (fun _ => 0)))), (q67, .inr (0, [.ref (ea71), .int (nI (0))])), (ea71, .inl (cQ, 8, .inr (.inr (.inr (.inr (fun i => if i < 8 then some (er71 i) else none))))))] : va_W) ++ eqR cI er71 (fun _ _ => 0)) := hD
  refine va_putF (D := D) (ci := 2) (v := .ref (q67)) (ty := .object "RepairSender$Equations") (C := RX3) (T := TX3) (N := 13) hx hb hts iwX3_init_X3 tyX3 tyX3_ok nmX3 hown hK hP hD hS 0 rfl rfl 12 (by decide) (hts (.fieldLink RX3 39 "RepairSender" "equations" "LRepairSender$Equations;") (List.mem_of_getElem? (i := 19) rfl)) (fun _ h9 => h9) rfl hin rfl (by decide +kernel) rfl rfl (Nat.le_of_ble_eq_true rfl) dX3_init_74 (fun H locs hP hD hS => ?_)
  have hP : va_P D vwCl (([(a0, .inr (2, [.ref (q5), .int (nI (0)), .int (nI (0)), .int (nI (0)), .int (nI (0)), .int (nI (0)), .ref (q18), .ref (q26), .ref (q34), .ref (q42), .ref (q50), .ref (q56), .ref (q67)])), (q5, .inr (1, [.ref (pa9), .ref (pb9), .int (nI (0))])), (pa9, .inl (cI, 8, .inl (bF (fun _ => 0)))), (pb9, .inl (cI, 8, .inl (bF (fun _ => 0)))), (q18, .inl (cI, 6, .inl (nF (fun _ => 0)))), (q26, .inl (cI, 6, .inl (nF (fun _ => 0)))), (q34, .inl (cI, 6, .inl (nF (fun _ => 0)))), (q42, .inl (cI, 6, .inl (nF (fun _ => 0)))), (q50, .inl (cZ, 6, .inl (nF (fun _ => 0)))), (q56, .inr (1, [.ref (pa60), .ref (pb60), .int (nI (0))])), (pa60, .inl (cI, 8, .inl (bF (fun _ => 0)))), (pb60, .inl (cI, 8, .inl (bF (fun _ => 0)))), (q67, .inr (0, [.ref (ea71), .int (nI (0))])), (ea71, .inl (cQ, 8, .inr (.inr (.inr (.inr (fun i => if i < 8 then some (er71 i) else none))))))] : va_W) ++ eqR cI er71 (fun _ _ => 0)) H := hP
  have hD : va_D A (([(a0, .inr (2, [.ref (q5), .int (nI (0)), .int (nI (0)), .int (nI (0)), .int (nI (0)), .int (nI (0)), .ref (q18), .ref (q26), .ref (q34), .ref (q42), .ref (q50), .ref (q56), .ref (q67)])), (q5, .inr (1, [.ref (pa9), .ref (pb9), .int (nI (0))])), (pa9, .inl (cI, 8, .inl (bF (fun _ => 0)))), (pb9, .inl (cI, 8, .inl (bF (fun _ => 0)))), (q18, .inl (cI, 6, .inl (nF (fun _ => 0)))), (q26, .inl (cI, 6, .inl (nF (fun _ => 0)))), (q34, .inl (cI, 6, .inl (nF (fun _ => 0)))), (q42, .inl (cI, 6, .inl (nF (fun _ => 0)))), (q50, .inl (cZ, 6, .inl (nF (fun _ => 0)))), (q56, .inr (1, [.ref (pa60), .ref (pb60), .int (nI (0))])), (pa60, .inl (cI, 8, .inl (bF (fun _ => 0)))), (pb60, .inl (cI, 8, .inl (bF (fun _ => 0)))), (q67, .inr (0, [.ref (ea71), .int (nI (0))])), (ea71, .inl (cQ, 8, .inr (.inr (.inr (.inr (fun i => if i < 8 then some (er71 i) else none))))))] : va_W) ++ eqR cI er71 (fun _ _ => 0)) := hD
  refine lv_aload_n hx hb dX3_init_77 rfl (lv_at hl 0 rfl) ?_
  refine lv_iconst (v := nI (4)) hx hb dX3_init_78 (by decide) ?_
  refine lv_iconst (v := nI (3)) hx hb dX3_init_79 (by decide) ?_
  obtain ⟨ad, hd0, hd1, hd2, hd3, hd4, hd5, hd6, hd7, hd8, hd9, hd10, hd11, hd12, hd13, hdr⟩ : ∃ ad : Nat → Nat, ad 0 = a0 ∧ ad 1 = q18 ∧ ad 2 = q26 ∧ ad 3 = q34 ∧ ad 4 = q42 ∧ ad 5 = q50 ∧ ad 6 = q5 ∧ ad 7 = pa9 ∧ ad 8 = pb9 ∧ ad 9 = q56 ∧ ad 10 = pa60 ∧ ad 11 = pb60 ∧ ad 12 = q67 ∧ ad 13 = ea71 ∧ (fun i => ad (14 + i)) = er71 := ⟨adf [a0, q18, q26, q34, q42, q50, q5, pa9, pb9, q56, pa60, pb60, q67, ea71] er71, rfl, rfl, rfl, rfl, rfl, rfl, rfl, rfl, rfl, rfl, rfl, rfl, rfl, rfl, funext fun i => by show (if 14 + i < 14 then _ else er71 (14 + i - 14)) = _; rw [if_neg (by omega), Nat.add_sub_cancel_left]⟩
  subst hd0
  subst hd1
  subst hd2
  subst hd3
  subst hd4
  subst hd5
  subst hd6
  subst hd7
  subst hd8
  subst hd9
  subst hd10
  subst hd11
  subst hd12
  subst hd13
  subst hdr
  have hP := hP.sub (ws' := (wF cI cZ cQ ad 0 0 0 0 0 (fun _ => 0) (fun _ => 0) (fun _ => 0) (fun _ => 0) (fun _ => 0) 0 (fun _ => 0) (fun _ => 0) 0 (fun _ => 0) (fun _ => 0) 0 (fun _ _ => 0))) [0, 4, 5, 6, 7, 8, 1, 2, 3, 9, 10, 11, 12, 13, 14, 15, 16, 17, 18, 19, 20, 21] rfl
  have hD := hD.sub (ws' := (wF cI cZ cQ ad 0 0 0 0 0 (fun _ => 0) (fun _ => 0) (fun _ => 0) (fun _ => 0) (fun _ => 0) 0 (fun _ => 0) (fun _ => 0) 0 (fun _ => 0) (fun _ => 0) 0 (fun _ _ => 0))) [0, 4, 5, 6, 7, 8, 1, 2, 3, 9, 10, 11, 12, 13, 14, 15, 16, 17, 18, 19, 20, 21] (by decide) rfl
  have hPc := hP.sub (ws' := (wA cI cZ ad (0) (0) (0) (0) (0) (((fun _ => 0))) (((fun _ => 0))) (((fun _ => 0))) (((fun _ => 0))) (((fun _ => 0))) (0) (((fun _ => 0))) (((fun _ => 0))))) [0, 1, 2, 3, 4, 5, 6, 7, 8] rfl
  have hDc := hD.sub (ws' := (wA cI cZ ad (0) (0) (0) (0) (0) (((fun _ => 0))) (((fun _ => 0))) (((fun _ => 0))) (((fun _ => 0))) (((fun _ => 0))) (0) (((fun _ => 0))) (((fun _ => 0))))) [0, 1, 2, 3, 4, 5, 6, 7, 8] (by decide) rfl
  refine q_cv (wc := (wA cI cZ ad (0) (0) (0) (0) (0) (((fun _ => 0))) (((fun _ => 0))) (((fun _ => 0))) (((fun _ => 0))) (((fun _ => 0))) (0) (((fun _ => 0))) (((fun _ => 0))))) (wr := (([9, 10, 11, 12, 13, 14, 15, 16, 17, 18, 19, 20, 21] : List Nat).filterMap (fun i => (wF cI cZ cQ ad (0) (0) (0) (0) (0) ((fun _ => 0)) ((fun _ => 0)) ((fun _ => 0)) ((fun _ => 0)) ((fun _ => 0)) (0) ((fun _ => 0)) ((fun _ => 0)) (0) ((fun _ => 0)) ((fun _ => 0)) (0) ((fun _ _ => 0)))[i]?))) (w1 := fun _ => (wA cI cZ ad (3) (0) (0) (0) (0) (((fun _ => 0))) (((fun _ => 0))) (((fun _ => 0))) (((fun _ => 0))) (((fun _ => 0))) (4) (idp 4 ((fun _ => 0))) (zrv 4 ((fun _ => 0))))) (va_runV (As := [.int (nI (4)), .int (nI (3))]) (rest := []) ⟨hx, hb, hml, hown, hts⟩ (c_X3_startBlock l D cI cZ cQ cL (ad) (0) (0) (0) (0) (0) ((fun _ => 0)) ((fun _ => 0)) ((fun _ => 0)) ((fun _ => 0)) ((fun _ => 0)) (0) ((fun _ => 0)) ((fun _ => 0)) (4) (3) H.size (by omega)) (cwV 2 hts gX3_init_X3_startBlock rfl rfl rfl ⟨rfl, hd_X3_startBlock⟩ ⟨Nat.le_of_ble_eq_true rfl, Nat.le_of_ble_eq_true rfl⟩) (PW_v (q := (RX3, TX3, 13)) (ci := 2) (q0 := 0) hPc hK hDc hN rfl rfl) rfl rfl hl.1 rfl (lv_room (Nat.le_of_ble_eq_true rfl)) dX3_init_80 ⟨Nat.le_of_ble_eq_true rfl, Nat.le_of_ble_eq_true rfl⟩) hP hD hS hA [0, 1, 2, 3, 4, 5, 6, 7, 8] [9, 10, 11, 12, 13, 14, 15, 16, 17, 18, 19, 20, 21] rfl rfl (by decide) (by decide) (fun u_80 H locs h_80 hP hD hS => ?_)
  have hP := hP.sub (ws' := (wF cI cZ cQ ad (3) (0) (0) (0) (0) (((fun _ => 0))) (((fun _ => 0))) (((fun _ => 0))) (((fun _ => 0))) (((fun _ => 0))) (4) (idp 4 ((fun _ => 0))) (zrv 4 ((fun _ => 0))) (0) ((fun _ => 0)) ((fun _ => 0)) (0) ((fun _ _ => 0)))) [13, 14, 15, 16, 17, 18, 19, 20, 21, 0, 1, 2, 3, 4, 5, 6, 7, 8, 9, 10, 11, 12] rfl
  have hD := hD.sub (ws' := (wF cI cZ cQ ad (3) (0) (0) (0) (0) (((fun _ => 0))) (((fun _ => 0))) (((fun _ => 0))) (((fun _ => 0))) (((fun _ => 0))) (4) (idp 4 ((fun _ => 0))) (zrv 4 ((fun _ => 0))) (0) ((fun _ => 0)) ((fun _ => 0)) (0) ((fun _ _ => 0)))) [13, 14, 15, 16, 17, 18, 19, 20, 21, 0, 1, 2, 3, 4, 5, 6, 7, 8, 9, 10, 11, 12] (by decide) rfl
  have hP : va_P D vwCl (wF cI cZ cQ ad 3 0 0 0 0 (fun _ => 0) (fun _ => 0) (fun _ => 0) (fun _ => 0) (fun _ => 0) 4 (idp 4 (fun _ => 0)) (zrv 4 (fun _ => 0)) 0 (fun _ => 0) (fun _ => 0) 0 (fun _ _ => 0)) H := hP
  have hD : va_D A (wF cI cZ cQ ad 3 0 0 0 0 (fun _ => 0) (fun _ => 0) (fun _ => 0) (fun _ => 0) (fun _ => 0) 4 (idp 4 (fun _ => 0)) (zrv 4 (fun _ => 0)) 0 (fun _ => 0) (fun _ => 0) 0 (fun _ _ => 0)) := hD
  exact W.vret hx hb hr (fun t ht hW => ⟨⟨ad, rfl, rfl, by rw [ht]; exact hP, hD⟩, hS.F ht⟩) hS.2.2 dX3_init_83
