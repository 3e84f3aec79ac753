theorem nest_in : ∀ w ∈ nestW, w ∈ lw_tbl := by decide +kernel
theorem nest_on : ∀ w ∈ nestW, w.onTables = true := by decide +kernel
theorem str_in : ∀ q ∈ strW, Cond.stringRef RX3 q.1 q.2 ∈ lw_tbl := by decide +kernel
theorem nc_in : ∀ q ∈ ncW, Cond.not (.castable q.1 q.2) ∈ flatC (Jvm.Cond.and given_1 narrow_1) := by decide +kernel
theorem cst_in : ∀ w ∈ cstW, w ∈ lw_tbl := by decide +kernel
theorem st_in1 : Cond.isRef (.static Bundle.tN "UNASSIGNED_STACK" Bundle.steD) ∈ flatC (Jvm.Cond.and given_1 narrow_1) := by decide +kernel
theorem st_in2 : Cond.isRef (.static Bundle.tN "SUPPRESSED_SENTINEL" Bundle.listD) ∈ flatC (Jvm.Cond.and given_1 narrow_1) := by decide +kernel
theorem la_in1 : Cond.laysStatic Bundle.tN "UNASSIGNED_STACK" Bundle.steD ∈ lw_tbl := by decide +kernel
theorem la_in2 : Cond.laysStatic Bundle.tN "SUPPRESSED_SENTINEL" Bundle.listD ∈ lw_tbl := by decide +kernel
theorem ti_in : Cond.initialized Bundle.tN ∈ lw_tbl := by decide +kernel
theorem ac_int : Cond.arrayClass .int ∈ lw_tbl := by decide +kernel
theorem ac_bool : Cond.arrayClass .boolean ∈ lw_tbl := by decide +kernel
theorem ao_in : Cond.arrayOver (.array .int) ∈ lw_tbl := by decide +kernel
theorem in_0 : Cond.instantiable RX0 2 ∈ lw_tbl := by decide +kernel
theorem in_2 : Cond.instantiable RX2 3 ∈ lw_tbl := by decide +kernel
theorem in_3 : Cond.instantiable RX3 13 ∈ lw_tbl := by decide +kernel
theorem ii_3 : Cond.initialized RX3 ∈ lw_tbl := by decide +kernel
theorem cl_3 : Cond.classLink RL 26 RX3 ∈ lw_tbl := by decide +kernel
theorem ml_3 : Cond.methodLink RL 86 yX3_init ∈ lw_tbl := by decide +kernel
theorem im_3 : Cond.instanceMethod yX3_init ∈ lw_tbl := by decide +kernel
theorem arr_of {args : Array Value} {s : State} {ty : FieldType} (h : (Cond.arrayClass ty).before args s = true) : ∃ cA : ClassId, ArrOfT s cA ty ∧ s.vm.findClass ("[" ++ ty.toString) = some cA := by
  obtain ⟨cA, kA, comp, h1, h2, h3⟩ := Cond.arrayClass_spec h
  exact ⟨cA, fun n z => ⟨fun k h => (by cases h), kA, h2, comp, h3⟩, h1⟩
theorem arr_over {args : Array Value} {s : State} (h : (Cond.arrayOver (.array .int)).before args s = true) : ∃ cA : ClassId, ArrOfT s cA (.array .int) ∧ s.vm.findClass ("[" ++ (FieldType.array .int).toString) = some cA := by
  obtain ⟨comp, cA, kA, h1, h2, h3, h4, h5⟩ := arrayOverA_spec h
  exact ⟨cA, fun n z => ⟨fun k h => (by cases h), kA, h3, comp, h4⟩, h5⟩
theorem flags_no {l : Launch} (h : l.flags = flags0) : l.stackTraces = false := by
  unfold Launch.stackTraces
  rw [h]
  decide +kernel
set_option maxHeartbeats 16000000 in
set_option maxRecDepth 100000 in
theorem law_start {p : Program} {l : Launch} {e : Env} {s : State} {m : MethodId} {below : List Frame} {meth : Method} {c : Code} {b L : Nat} {xs : Nat → Int32} {Q : State → Prop} (hflags : l.flags = flags0) (hL : L ≤ 260) (hx : p.tables.exec = Jvm.exec) (hb : c.code = cL_law) (hml : c.maxLocals = 15) (hown : s.vm.findClass RL = some m.cls) (hts : ∀ w ∈ lw_tbl, w.before #[Value.ref b] s = true) (hXs : va_X b L xs s s.heap) (hbl : b < s.heap.size) (hgv : (Jvm.Cond.and given_1 narrow_1).before #[Value.ref b] s = true) (kend : ∀ (H : Heap) (locs : List Loc) (ls : Array Slot) (cells slots : Nat), (∀ q ∈ locs, s.heap.size ≤ q.base) → cells ≤ 659595 → slots ≤ 7122396 → W p l e room_1 s m #[Value.ref b] below meth c H locs cells slots Q (F0 m 815 ls [])) : W p l e room_1 s m #[Value.ref b] below meth c s.heap [] 0 0 Q (entryFrame m ([Value.ref b] : List Value).toArray 15) := by
  have hfl := flags_no hflags
  have hsn := flat_of_before _ hgv
  have htsL : ∀ w ∈ wsL_law, w.before #[Value.ref b] s = true := fun w h => hts w (lin_all w h)
  have hA : ∀ q : Nat, s.heap.size ≤ q → (fun q : Nat => s.heap.size ≤ q) q := fun _ h => h
  have hbA : ¬ (fun q : Nat => s.heap.size ≤ q) b := Nat.not_le.mpr hbl
  obtain ⟨c0, iS0, hKn0⟩ := u_known (C := RX0) (T := TX0) (N := 2) (n := 2) hts lin_X0 (hts _ in_0)
  obtain ⟨c1, iS1, hKn1⟩ := u_known (C := RX2) (T := TX2) (N := 3) (n := 3) hts lin_X2 (hts _ in_2)
  obtain ⟨c2, iS2, hKn2⟩ := u_known (C := RX3) (T := TX3) (N := 13) (n := 13) hts lin_X3 (hts _ in_3)
  obtain ⟨D, hKc⟩ : ∃ D : va_G, ∀ (k : Nat) (q : vw_C), vwCl[k]? = some q → u_Kn s q.1 q.2.1 q.2.2 (D.1 k) (D.2 k) := by
    refine ⟨(fun k => if k = 0 then c0 else if k = 1 then c1 else c2, fun k => if k = 0 then iS0 else if k = 1 then iS1 else iS2), ?_⟩
    intro k q hq
    match k, hq with
    | 0, hq => cases hq; exact hKn0
    | 1, hq => cases hq; exact hKn1
    | 2, hq => cases hq; exact hKn2
    | k + 3, hq => simp [vwCl] at hq
  obtain ⟨cI, hI1, hI2⟩ := arr_of (hts _ ac_int)
  obtain ⟨cZ, hZ1, hZ2⟩ := arr_of (hts _ ac_bool)
  obtain ⟨cQ, hQ1, hQ2⟩ := arr_over (hts _ ao_in)
  have hK : va_K D vwCl (TY cI cZ cQ cI) s := ⟨hKc, fun k q h => by
    match k, h with
    | 0, h => cases h; exact ⟨hI1, hI2⟩
    | 1, h => cases h; exact ⟨hZ1, hZ2⟩
    | 2, h => cases h; exact ⟨hQ1, hQ2⟩
    | 3, h => cases h; exact ⟨hI1, hI2⟩
    | k + 4, h => simp [TY] at h⟩
  have hN : NK s := fun w hw => va_Nw.of (nest_on w hw) (hts w (nest_in w hw))
  have hAK : AK s := AK_of (hts _ ao_in)
  obtain ⟨cC, kC, hfc, -⟩ := Cond.instantiable_spec (hts _ in_3)
  have hXK : XK s.heap.size s := ⟨vx_Zqof (hts _ la_in1) (hts _ ti_in) (hsn _ st_in1) (fun a h1 h2 => by omega), vx_Zqof (hts _ la_in2) (hts _ ti_in) (hsn _ st_in2) (fun a h1 h2 => by omega), fun q hq => by
    have h9 := hts _ (str_in q hq)
    obtain ⟨k, cf, i, a, -, -, -, -, -, he⟩ := Cond.stringRef_spec hfc h9
    exact ⟨a, vk_R.of h9 he⟩, fun q hq => va_Nc.of (hsn _ (nc_in q hq)), fun w hw => va_Nw.of (cstW_on w hw) (hts w (cst_in w hw))⟩
  have hS : va_S (fun q : Nat => s.heap.size ≤ q) s.heap s.heap [] := va_S.rf
  have hP : va_P D vwCl ([] : va_W) s.heap := fun k q h => by simp at h
  have hD : va_D (fun q : Nat => s.heap.size ≤ q) ([] : va_W) := ⟨fun i j p q h => by simp at h, fun k q h => by simp at h⟩
  have hl := lv_entry ([.ref b]) (n := 15) (Nat.le_of_ble_eq_true rfl)
  rw [lg_entry_eq]
  generalize (lg_sl ([.ref b]) ++ List.replicate (15 - (lg_sl ([.ref b])).length) Slot.unset).toArray = ls at hl ⊢
  have hl : lv_has ls 15 [(0, .ref b)] := hl
  refine va_new (ci := 2) (fs := [.null, .int (nI (0)), .int (nI (0)), .int (nI (0)), .int (nI (0)), .int (nI (0)), .null, .null, .null, .null, .null, .null, .null]) (C := RX3) (T := TX3) (N := 13) hx hb hts lin_X3 tyX3 tyX3_ok hown (hts _ cl_3) (hts _ in_3) (hts _ ii_3) hK hP hD hS hA rfl (fun j hj => by rcases (show j = 0 ∨ j = 1 ∨ j = 2 ∨ j = 3 ∨ j = 4 ∨ j = 5 ∨ j = 6 ∨ j = 7 ∨ j = 8 ∨ j = 9 ∨ j = 10 ∨ j = 11 ∨ j = 12 by omega) with rfl | rfl | rfl | rfl | rfl | rfl | rfl | rfl | rfl | rfl | rfl | rfl | rfl <;> rfl) (Nat.le_of_ble_eq_true rfl) (Nat.le_of_ble_eq_true rfl) dL_law_0 (fun q0 H hP hD hS => ?_)
  have hP : va_P D vwCl (([(q0, .inr (2, [.null, .int (nI (0)), .int (nI (0)), .int (nI (0)), .int (nI (0)), .int (nI (0)), .null, .null, .null, .null, .null, .null, .null]))] : va_W) ++ []) H := hP
  have hD : va_D (fun q : Nat => s.heap.size ≤ q) (([(q0, .inr (2, [.null, .int (nI (0)), .int (nI (0)), .int (nI (0)), .int (nI (0)), .int (nI (0)), .null, .null, .null, .null, .null, .null, .null]))] : va_W) ++ []) := hD
  refine lv_dup hx hb dL_law_3 rfl ?_
  refine j_cv (wc := ([(q0, .inr (2, [.null, .int (nI (0)), .int (nI (0)), .int (nI (0)), .int (nI (0)), .int (nI (0)), .null, .null, .null, .null, .null, .null, .null]))] : va_W)) (pl := []) (w1 := fun u : Nat → Nat => (wF cI cZ cQ u 3 0 0 0 0 (fun _ => 0) (fun _ => 0) (fun _ => 0) (fun _ => 0) (fun _ => 0) 4 (idp 4 (fun _ => 0)) (zrv 4 (fun _ => 0)) 0 (fun _ => 0) (fun _ => 0) 0 (fun _ _ => 0))) (va_runI (As := []) (rest := [.ref q0]) ⟨hx, hb, hml, hown, htsL⟩ (c_X3_init l D cI cZ cQ cI q0 H.size) (cwI 0 htsL gL_law_X3_init rfl rfl rfl (hts _ ii_3) (hts _ ml_3) (hts _ im_3) rfl hd_X3_init ⟨Nat.le_of_ble_eq_true rfl, Nat.le_of_ble_eq_true rfl⟩) (PA_s (jP_l hP) hK (jD_l hD) hN hAK) rfl rfl hl.1 rfl (lv_room (Nat.le_of_ble_eq_true rfl)) dL_law_4 ⟨Nat.le_of_ble_eq_true rfl, Nat.le_of_ble_eq_true rfl⟩) hP hD hS hA (fun ad H9 locs9 hu hP9 hD9 hS9 => ?_)
  subst hu
  have hP : va_P D vwCl (wF cI cZ cQ ad 3 0 0 0 0 (fun _ => 0) (fun _ => 0) (fun _ => 0) (fun _ => 0) (fun _ => 0) 4 (idp 4 (fun _ => 0)) (zrv 4 (fun _ => 0)) 0 (fun _ => 0) (fun _ => 0) 0 (fun _ _ => 0)) H9 := jP_l hP9
  have hD : va_D (fun q : Nat => s.heap.size ≤ q) (wF cI cZ cQ ad 3 0 0 0 0 (fun _ => 0) (fun _ => 0) (fun _ => 0) (fun _ => 0) (fun _ => 0) 4 (idp 4 (fun _ => 0)) (zrv 4 (fun _ => 0)) 0 (fun _ => 0) (fun _ => 0) 0 (fun _ _ => 0)) := jD_l hD9
  have hS := hS9
  refine lv_astore_n (lv' := [(1, .ref (ad 0)), (0, .ref (b))]) hx hb dL_law_7 rfl hl (by decide) rfl (fun ls hl => ?_)
  refine lv_bipush (v := nI (6)) hx hb dL_law_8 (by decide) ?_
  refine va_newa (atype := .int) hx hb (hts _ ac_int) rfl hK hP hD hS hA (a0 := (6, .inl (nF (fun _ => 0)))) (fun c9 => nF0 c9 6) (by decide) (by decide) (by decide) (Nat.le_of_ble_eq_true rfl) (Nat.le_of_ble_eq_true rfl) dL_law_10 (fun q0 cA H hK2 hP hD hS => ?_)
  have eA : cI = cA := (tys_I hK hK2).symm
  subst eA
  refine lv_astore_n (lv' := [(2, .ref (q0)), (1, .ref (ad 0)), (0, .ref (b))]) hx hb dL_law_12 rfl hl (by decide) rfl (fun ls hl => ?_)
  refine lv_bipush (v := nI (8)) hx hb dL_law_13 (by decide) ?_
  refine va_newa (atype := .int) hx hb (hts _ ac_int) rfl hK hP hD hS hA (a0 := (8, .inl (bF (fun _ => 0)))) (fun c9 => bF0 c9 8) (by decide) (by decide) (by decide) (Nat.le_of_ble_eq_true rfl) (Nat.le_of_ble_eq_true rfl) dL_law_15 (fun q1 cA H hK2 hP hD hS => ?_)
  have eA : cI = cA := (tys_I hK hK2).symm
  subst eA
  refine lv_astore_n (lv' := [(3, .ref (q1)), (2, .ref (q0)), (1, .ref (ad 0)), (0, .ref (b))]) hx hb dL_law_17 rfl hl (by decide) rfl (fun ls hl => ?_)
  refine lv_bipush (v := nI (30)) hx hb dL_law_18 (by decide) ?_
  refine va_newa (atype := .int) hx hb (hts _ ac_int) rfl hK hP hD hS hA (a0 := (30, .inl (nF (fun _ => 0)))) (fun c9 => nF0 c9 30) (by decide) (by decide) (by decide) (Nat.le_of_ble_eq_true rfl) (Nat.le_of_ble_eq_true rfl) dL_law_20 (fun q2 cA H hK2 hP hD hS => ?_)
  have eA : cI = cA := (tys_I hK hK2).symm
  subst eA
  refine lv_astore (lv' := [(4, .ref (q2)), (3, .ref (q1)), (2, .ref (q0)), (1, .ref (ad 0)), (0, .ref (b))]) hx hb dL_law_22 hl (by decide) rfl (fun ls hl => ?_)
  have hP : va_P D vwCl ((wF cI cZ cQ ad (3) (0) (0) (0) (0) ((fun _ => 0)) ((fun _ => 0)) ((fun _ => 0)) ((fun _ => 0)) ((fun _ => 0)) (4) ((idp 4 (fun _ => 0))) ((zrv 4 (fun _ => 0))) (0) ((fun _ => 0)) ((fun _ => 0)) (0) ((fun _ _ => 0))) ++ ([(q0, .inl (cI, 6, .inl (nF (fun _ => 0))))] ++ ([(q1, .inl (cI, 8, .inl (bF (fun _ => 0))))] ++ [(q2, .inl (cI, 30, .inl (nF (fun _ => 0))))]) : va_W)) H := by rw [← List.append_assoc, ← List.append_assoc]; exact hP
  have hD : va_D (fun q : Nat => s.heap.size ≤ q) ((wF cI cZ cQ ad (3) (0) (0) (0) (0) ((fun _ => 0)) ((fun _ => 0)) ((fun _ => 0)) ((fun _ => 0)) ((fun _ => 0)) (4) ((idp 4 (fun _ => 0))) ((zrv 4 (fun _ => 0))) (0) ((fun _ => 0)) ((fun _ => 0)) (0) ((fun _ _ => 0))) ++ ([(q0, .inl (cI, 6, .inl (nF (fun _ => 0))))] ++ ([(q1, .inl (cI, 8, .inl (bF (fun _ => 0))))] ++ [(q2, .inl (cI, 30, .inl (nF (fun _ => 0))))]) : va_W)) := by rw [← List.append_assoc, ← List.append_assoc]; exact hD
  have hP : va_P D vwCl ((wF cI cZ cQ ad (3) (0) (0) (0) (0) ((fun _ => 0)) ((fun _ => 0)) ((fun _ => 0)) ((fun _ => 0)) ((fun _ => 0)) (4) ((idp 4 (fun _ => 0))) ((zrv 4 (fun _ => 0))) (0) ((fun _ => 0)) ((fun _ => 0)) (0) ((fun _ _ => 0))) ++ (wT cI q0 q1 q2 (fun _ => 0) (fun _ => 0) (fun _ => 0))) H := hP
  have hD : va_D (fun q : Nat => s.heap.size ≤ q) ((wF cI cZ cQ ad (3) (0) (0) (0) (0) ((fun _ => 0)) ((fun _ => 0)) ((fun _ => 0)) ((fun _ => 0)) ((fun _ => 0)) (4) ((idp 4 (fun _ => 0))) ((zrv 4 (fun _ => 0))) (0) ((fun _ => 0)) ((fun _ => 0)) (0) ((fun _ _ => 0))) ++ (wT cI q0 q1 q2 (fun _ => 0) (fun _ => 0) (fun _ => 0))) := hD
  have hP : va_P D vwCl ((wF cI cZ cQ ad (3) (0) (0) (0) (0) ((fun _ => 0)) ((fun _ => 0)) ((fun _ => 0)) ((fun _ => 0)) ((fun _ => 0)) (4) ((idp 4 (fun _ => 0))) ((zrv 4 (fun _ => 0))) (0) ((fun _ => 0)) ((fun _ => 0)) (0) ((fun _ _ => 0))) ++ (wT cI q0 q1 q2 (nA 0 0 0 0 0 0) ((fun _ => 0)) (rA ((fun _ => 0)) ((fun _ => 0)) ((fun _ => 0)) ((fun _ => 0)) ((fun _ => 0))))) H := by rw [← nA_00, ← rA_00]; exact hP
  have hD : va_D (fun q : Nat => s.heap.size ≤ q) ((wF cI cZ cQ ad (3) (0) (0) (0) (0) ((fun _ => 0)) ((fun _ => 0)) ((fun _ => 0)) ((fun _ => 0)) ((fun _ => 0)) (4) ((idp 4 (fun _ => 0))) ((zrv 4 (fun _ => 0))) (0) ((fun _ => 0)) ((fun _ => 0)) (0) ((fun _ _ => 0))) ++ (wT cI q0 q1 q2 (nA 0 0 0 0 0 0) ((fun _ => 0)) (rA ((fun _ => 0)) ((fun _ => 0)) ((fun _ => 0)) ((fun _ => 0)) ((fun _ => 0))))) := by rw [← nA_00, ← rA_00]; exact hD
  have hJ := LJ_0
  obtain ⟨⟨hrc, hlos, hwai, hset, hbad, hgon, hbk, hpa, hse, hbp, hbv, hlv, hp1⟩, hbk1, hs16, hr6, hk6⟩ := id hJ
  refine lv_aload_n hx hb dL_law_24 rfl (lv_at hl 2 rfl) ?_
  refine lv_iconst (v := nI (0)) hx hb dL_law_25 (by decide) ?_
  refine lv_iconst (v := nI (4)) hx hb dL_law_26 (by decide) ?_
  refine q_iast (f := (nA 0 0 0 0 0 0)) (j := 0) (y := 4) hx hb hK (jP_w hP) (jD_w hD) hS 0 0 rfl rfl (by decide) (by decide) dL_law_27 (fun H locs hP hD hS => ?_)
  have hP : va_P D vwCl ((wT cI q0 q1 q2 (un (nA 0 0 0 0 0 0) 0 4) ((fun _ => 0)) (rA ((fun _ => 0)) ((fun _ => 0)) ((fun _ => 0)) ((fun _ => 0)) ((fun _ => 0)))) ++ (wF cI cZ cQ ad (3) (0) (0) (0) (0) ((fun _ => 0)) ((fun _ => 0)) ((fun _ => 0)) ((fun _ => 0)) ((fun _ => 0)) (4) ((idp 4 (fun _ => 0))) ((zrv 4 (fun _ => 0))) (0) ((fun _ => 0)) ((fun _ => 0)) (0) ((fun _ _ => 0)))) H := hP
  have hD : va_D (fun q : Nat => s.heap.size ≤ q) ((wT cI q0 q1 q2 (un (nA 0 0 0 0 0 0) 0 4) ((fun _ => 0)) (rA ((fun _ => 0)) ((fun _ => 0)) ((fun _ => 0)) ((fun _ => 0)) ((fun _ => 0)))) ++ (wF cI cZ cQ ad (3) (0) (0) (0) (0) ((fun _ => 0)) ((fun _ => 0)) ((fun _ => 0)) ((fun _ => 0)) ((fun _ => 0)) (4) ((idp 4 (fun _ => 0))) ((zrv 4 (fun _ => 0))) (0) ((fun _ => 0)) ((fun _ => 0)) (0) ((fun _ _ => 0)))) := hD
  rw [unA_0] at hP hD
  have hP := jP_w hP
  have hD := jD_w hD
  have hP : va_P D vwCl ((wF cI cZ cQ ad (3) (0) (0) (0) (0) ((fun _ => 0)) ((fun _ => 0)) ((fun _ => 0)) ((fun _ => 0)) ((fun _ => 0)) (4) ((idp 4 (fun _ => 0))) ((zrv 4 (fun _ => 0))) (0) ((fun _ => 0)) ((fun _ => 0)) (0) ((fun _ _ => 0))) ++ (wT cI q0 q1 q2 (nA 4 0 0 0 0 0) ((fun _ => 0)) (rA ((fun _ => 0)) ((fun _ => 0)) ((fun _ => 0)) ((fun _ => 0)) ((fun _ => 0))))) H := hP
  have hD : va_D (fun q : Nat => s.heap.size ≤ q) ((wF cI cZ cQ ad (3) (0) (0) (0) (0) ((fun _ => 0)) ((fun _ => 0)) ((fun _ => 0)) ((fun _ => 0)) ((fun _ => 0)) (4) ((idp 4 (fun _ => 0))) ((zrv 4 (fun _ => 0))) (0) ((fun _ => 0)) ((fun _ => 0)) (0) ((fun _ _ => 0))) ++ (wT cI q0 q1 q2 (nA 4 0 0 0 0 0) ((fun _ => 0)) (rA ((fun _ => 0)) ((fun _ => 0)) ((fun _ => 0)) ((fun _ => 0)) ((fun _ => 0))))) := hD
  refine lv_aload_n hx hb dL_law_28 rfl (lv_at hl 2 rfl) ?_
  refine lv_iconst (v := nI (1)) hx hb dL_law_29 (by decide) ?_
  refine lv_iconst (v := nI (3)) hx hb dL_law_30 (by decide) ?_
  refine q_iast (f := (nA 4 0 0 0 0 0)) (j := 1) (y := 3) hx hb hK (jP_w hP) (jD_w hD) hS 0 0 rfl rfl (by decide) (by decide) dL_law_31 (fun H locs hP hD hS => ?_)
  have hP : va_P D vwCl ((wT cI q0 q1 q2 (un (nA 4 0 0 0 0 0) 1 3) ((fun _ => 0)) (rA ((fun _ => 0)) ((fun _ => 0)) ((fun _ => 0)) ((fun _ => 0)) ((fun _ => 0)))) ++ (wF cI cZ cQ ad (3) (0) (0) (0) (0) ((fun _ => 0)) ((fun _ => 0)) ((fun _ => 0)) ((fun _ => 0)) ((fun _ => 0)) (4) ((idp 4 (fun _ => 0))) ((zrv 4 (fun _ => 0))) (0) ((fun _ => 0)) ((fun _ => 0)) (0) ((fun _ _ => 0)))) H := hP
  have hD : va_D (fun q : Nat => s.heap.size ≤ q) ((wT cI q0 q1 q2 (un (nA 4 0 0 0 0 0) 1 3) ((fun _ => 0)) (rA ((fun _ => 0)) ((fun _ => 0)) ((fun _ => 0)) ((fun _ => 0)) ((fun _ => 0)))) ++ (wF cI cZ cQ ad (3) (0) (0) (0) (0) ((fun _ => 0)) ((fun _ => 0)) ((fun _ => 0)) ((fun _ => 0)) ((fun _ => 0)) (4) ((idp 4 (fun _ => 0))) ((zrv 4 (fun _ => 0))) (0) ((fun _ => 0)) ((fun _ => 0)) (0) ((fun _ _ => 0)))) := hD
  rw [unA_1] at hP hD
  have hP := jP_w hP
  have hD := jD_w hD
  have hP : va_P D vwCl ((wF cI cZ cQ ad (3) (0) (0) (0) (0) ((fun _ => 0)) ((fun _ => 0)) ((fun _ => 0)) ((fun _ => 0)) ((fun _ => 0)) (4) ((idp 4 (fun _ => 0))) ((zrv 4 (fun _ => 0))) (0) ((fun _ => 0)) ((fun _ => 0)) (0) ((fun _ _ => 0))) ++ (wT cI q0 q1 q2 (nA 4 3 0 0 0 0) ((fun _ => 0)) (rA ((fun _ => 0)) ((fun _ => 0)) ((fun _ => 0)) ((fun _ => 0)) ((fun _ => 0))))) H := hP
  have hD : va_D (fun q : Nat => s.heap.size ≤ q) ((wF cI cZ cQ ad (3) (0) (0) (0) (0) ((fun _ => 0)) ((fun _ => 0)) ((fun _ => 0)) ((fun _ => 0)) ((fun _ => 0)) (4) ((idp 4 (fun _ => 0))) ((zrv 4 (fun _ => 0))) (0) ((fun _ => 0)) ((fun _ => 0)) (0) ((fun _ _ => 0))) ++ (wT cI q0 q1 q2 (nA 4 3 0 0 0 0) ((fun _ => 0)) (rA ((fun _ => 0)) ((fun _ => 0)) ((fun _ => 0)) ((fun _ => 0)) ((fun _ => 0))))) := hD
  refine lv_aload_n hx hb dL_law_32 rfl (lv_at hl 3 rfl) ?_
  refine lv_aload_n hx hb dL_law_33 rfl (lv_at hl 2 rfl) ?_
  refine lv_aload_n hx hb dL_law_34 rfl (lv_at hl 1 rfl) ?_
  refine lv_aload hx hb dL_law_35 (lv_at hl 0 rfl) ?_
  refine lv_iconst (v := nI (5)) hx hb dL_law_37 (by decide) ?_
  refine j_ci (wc := ((wF cI cZ cQ ad (3) (0) (0) (0) (0) ((fun _ => 0)) ((fun _ => 0)) ((fun _ => 0)) ((fun _ => 0)) ((fun _ => 0)) (4) ((idp 4 (fun _ => 0))) ((zrv 4 (fun _ => 0))) (0) ((fun _ => 0)) ((fun _ => 0)) (0) ((fun _ _ => 0))) ++ (wT cI q0 q1 q2 (nA 4 3 0 0 0 0) ((fun _ => 0)) (rA ((fun _ => 0)) ((fun _ => 0)) ((fun _ => 0)) ((fun _ => 0)) ((fun _ => 0)))))) (pl := []) (w1 := fun u9 => u9) (va_runS (As := [.ref (ad 0), .ref (q0), .ref (q1), .ref (q2), .int (nI (5))]) (rest := []) ⟨hx, hb, hml, hown, htsL⟩ (c_L_isSender l D cI cZ cQ cI hfl s.heap.size ad 3 0 0 0 0 ((fun _ => 0)) ((fun _ => 0)) ((fun _ => 0)) ((fun _ => 0)) ((fun _ => 0)) 4 ((idp 4 (fun _ => 0))) ((zrv 4 (fun _ => 0))) 0 ((fun _ => 0)) ((fun _ => 0)) 0 ((fun _ _ => 0)) q0 q1 q2 ((fun _ => 0)) (5) H.size hrc hset hgon hbk hbk1 hbp hbv (by omega) (by omega) (by omega) hbad (by omega) (j_b0 hD hS.1)) (va_cwS 5 htsL gL_law_L_isSender rfl rfl rfl hd_L_isSender ⟨Nat.le_of_ble_eq_true rfl, Nat.le_of_ble_eq_true rfl⟩) (PX_s hP hK hD hN hXK hS.2.1) rfl rfl hl.1 rfl (lv_room (Nat.le_of_ble_eq_true rfl)) dL_law_38 ⟨by show _ ≤ 659595; omega, by show _ ≤ 7122396; omega⟩) (by rw [List.append_nil]; exact hP) (by rw [List.append_nil]; exact hD) hS hA (fun r_38 u_38 H locs hq_38 hP hD hS => ?_)
  obtain ⟨rfl, ck, cp, cv, ek, em, rfl⟩ := hq_38
  rw [List.append_nil] at hP hD
  have hP : va_P D vwCl ((wF cI cZ cQ ad (3) (0) (0) (0) (0) ((fun _ => 0)) ((fun _ => 0)) ((fun _ => 0)) ((fun _ => 0)) ((fun _ => 0)) (4) ((idp 4 (fun _ => 0))) ((zrv 4 (fun _ => 0))) (ck) (cp) (cv) (ek) (em)) ++ (wT cI q0 q1 q2 (nA 4 3 0 0 0 0) ((fun _ => 0)) (rA ((fun _ => 0)) ((fun _ => 0)) ((fun _ => 0)) ((fun _ => 0)) ((fun _ => 0))))) H := hP
  have hD : va_D (fun q : Nat => s.heap.size ≤ q) ((wF cI cZ cQ ad (3) (0) (0) (0) (0) ((fun _ => 0)) ((fun _ => 0)) ((fun _ => 0)) ((fun _ => 0)) ((fun _ => 0)) (4) ((idp 4 (fun _ => 0))) ((zrv 4 (fun _ => 0))) (ck) (cp) (cv) (ek) (em)) ++ (wT cI q0 q1 q2 (nA 4 3 0 0 0 0) ((fun _ => 0)) (rA ((fun _ => 0)) ((fun _ => 0)) ((fun _ => 0)) ((fun _ => 0)) ((fun _ => 0))))) := hD
  refine lv_istore (lv' := [(5, .int (nI (1))), (4, .ref (q2)), (3, .ref (q1)), (2, .ref (q0)), (1, .ref (ad 0)), (0, .ref (b))]) hx hb dL_law_41 hl (by decide) rfl (fun ls hl => ?_)
  refine lv_iconst (v := nI (0)) hx hb dL_law_43 (by decide) ?_
  refine lv_istore (lv' := [(6, .int (nI (0))), (5, .int (nI (1))), (4, .ref (q2)), (3, .ref (q1)), (2, .ref (q0)), (1, .ref (ad 0)), (0, .ref (b))]) hx hb dL_law_44 hl (by decide) rfl (fun ls hl => ?_)
  refine W.widen (k := 200 + 80 * 0) (n := 1000 + 500 * 0) (by decide) (by decide) ?_
  have hP : va_P D vwCl ((wF cI cZ cQ ad (3) (0) (0) (0) (0) ((fun _ => 0)) ((fun _ => 0)) ((fun _ => 0)) ((fun _ => 0)) ((fun _ => 0)) (4) ((idp 4 (fun _ => 0))) ((zrv 4 (fun _ => 0))) (ck) (cp) (cv) (ek) (em)) ++ (wT cI q0 q1 q2 (nA 4 3 0 0 0 0) ((fun _ => 0)) (rA ((fun _ => 0)) ((fun _ => 0)) ((fun _ => 0)) ((fun _ => 0)) ((fun _ => 0))))) H := hP
  have hD : va_D (fun q : Nat => s.heap.size ≤ q) ((wF cI cZ cQ ad (3) (0) (0) (0) (0) ((fun _ => 0)) ((fun _ => 0)) ((fun _ => 0)) ((fun _ => 0)) ((fun _ => 0)) (4) ((idp 4 (fun _ => 0))) ((zrv 4 (fun _ => 0))) (ck) (cp) (cv) (ek) (em)) ++ (wT cI q0 q1 q2 (nA 4 3 0 0 0 0) ((fun _ => 0)) (rA ((fun _ => 0)) ((fun _ => 0)) ((fun _ => 0)) ((fun _ => 0)) ((fun _ => 0))))) := hD
  exact law_loop hfl hL hx hb hml hown htsL hXs hbl hK hN hXK kend 121 0 (by decide) (by decide) 3 0 0 0 0 ((fun _ => 0)) ((fun _ => 0)) ((fun _ => 0)) ((fun _ => 0)) ((fun _ => 0)) 4 ((idp 4 (fun _ => 0))) ((zrv 4 (fun _ => 0))) ck cp cv ek em ((fun _ => 0)) LJ_0 _ _ hP hD hS ls (lv_sub hl [6, 5, 4, 3, 2, 1, 0] rfl)
