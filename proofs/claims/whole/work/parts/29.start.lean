
theorem nest_in : ∀ w ∈ nestW, w ∈ lw_tbl := by decide +kernel
theorem nest_on : ∀ w ∈ nestW, w.onTables = true := by decide +kernel
theorem str_in : ∀ q ∈ strW, Cond.stringRef RX3 q.1 q.2 ∈ lw_tbl := by decide +kernel
theorem nc_in : ∀ q ∈ ncW, Cond.not (.castable q.1 q.2) ∈ flatC (Jvm.Cond.and given_1 narrow_1) := by decide +kernel
theorem cst_in : ∀ w ∈ cstW, w ∈ lw_tbl := by decide +kernel
theorem st_in1 : Cond.isRef (.static Bundle.tN "UNASSIGNED_STACK" Bundle.steD) ∈ flatC (Jvm.Cond.and given_1 narrow_1) := by decide +kernel
theorem st_in2 : Cond.isRef (.static Bundle.tN "SUPPRESSED_SENTINEL" Bundle.listD) ∈ flatC (Jvm.Cond.and given_1 narrow_1) := by decide +kernel
theorem la_in1 : Cond.laysStatic Bundle.tN "UNASSIGNED_STACK" Bundle.steD ∈ lw_tbl := by decide +kernel
theorem la_in2 : Cond.laysStatic Bundle.tN "SUPPRESSED_SENTINEL" Bundle.listD ∈ lw_tbl := by decide +kernel
theorem ti_in : Cond.initialized Bundle.tN ∈ lw_tbl := by decide +kernel
theorem ac_int : Cond.arrayClass .int ∈ lw_tbl := by decide +kernel
theorem ac_bool : Cond.arrayClass .boolean ∈ lw_tbl := by decide +kernel
theorem ac_long : Cond.arrayClass .long ∈ lw_tbl := by decide +kernel
theorem ao_in : Cond.arrayOver (.array .int) ∈ lw_tbl := by decide +kernel
theorem in_0 : Cond.instantiable RX0 2 ∈ lw_tbl := by decide +kernel
theorem in_2 : Cond.instantiable RX2 3 ∈ lw_tbl := by decide +kernel
theorem in_3 : Cond.instantiable RX3 13 ∈ lw_tbl := by decide +kernel
theorem in_4 : Cond.instantiable RX4 14 ∈ lw_tbl := by decide +kernel
theorem ii_3 : Cond.initialized RX3 ∈ lw_tbl := by decide +kernel
theorem ii_4 : Cond.initialized RX4 ∈ lw_tbl := by decide +kernel
theorem cl_3 : Cond.classLink RL 8 RX3 ∈ lw_tbl := by decide +kernel
theorem cl_4 : Cond.classLink RL 65 RX4 ∈ lw_tbl := by decide +kernel
theorem ml_3 : Cond.methodLink RL 64 yX3_init ∈ lw_tbl := by decide +kernel
theorem ml_4 : Cond.methodLink RL 67 yX4_init ∈ lw_tbl := by decide +kernel
theorem im_3 : Cond.instanceMethod yX3_init ∈ lw_tbl := by decide +kernel
theorem im_4 : Cond.instanceMethod yX4_init ∈ lw_tbl := by decide +kernel
section JV
variable {p : Program} {l : Launch} {e : Env} {R : Room} {s : State} {m : MethodId} {args : Array Value} {below : List Frame} {meth : Method} {c : Code} {H : Heap} {locs : List Loc} {cells slots : Nat} {Q : State → Prop}
variable {cc : ByteArray} {pc : Nat} {ls : Array Slot} {rest st0 : List Value} {D : va_G} {cl : List vw_C} {A0 : Nat → Prop} {a : Array Value} {H0 : Heap} {mc ms : Nat}
theorem j_cv {S : Type} {post : S → Prop} {wc pl : va_W} {w1 : S → va_W} (hr : va_Run p l e R s m args below meth c H locs cells slots mc ms (F0 m pc ls st0) rest (va_Qv post (fun u t => va_P D cl (w1 u) t.heap ∧ va_D (va_A wc H.size) (w1 u)) (va_A wc H.size) a) (va_A wc H.size))
    (hP : va_P D cl (wc ++ pl) H) (hD : va_D A0 (wc ++ pl)) (hS : va_S A0 H0 H locs) (hA : ∀ q, H0.size ≤ q → A0 q)
    (kk : ∀ (u : S) (H1 : Heap) (locs1 : List Loc), post u → va_P D cl (w1 u ++ pl) H1 → va_D A0 (w1 u ++ pl) → va_S A0 H0 H1 locs1 → W p l e R s m args below meth c H1 locs1 (cells + mc) (slots + ms) Q (F0 m (pc + 3) ls rest)) : W p l e R s m args below meth c H locs cells slots Q (F0 m pc ls st0) := by
  have hF : ∀ q, va_A wc H.size q → A0 q := fun q h => by
    rcases h with ⟨k, e9, h⟩ | h
    · exact hD.2 k (q, e9) (by rw [List.getElem?_append_left (List.getElem?_eq_some_iff.mp h).1]; exact h)
    · exact hA q (Nat.le_trans hS.1 h)
  refine va_callv hr hS (fun q _ h => hF q h) hF (fun u t H1 locs1 ht hvm hw hB hz1 hk1 hS1 => ?_)
  obtain ⟨hP1, hD1⟩ := hB
  rw [ht] at hP1
  obtain ⟨hP2, hD2⟩ := va_joinQ (X := wc) (cx := wc) (wr := []) hP hD (List.range wc.length) [] (j_range wc) rfl rfl (fun i h => by cases h) hk1 hF hP1 hD1
  exact kk u H1 locs1 hw hP2 hD2 hS1
end JV
theorem arr_of {args : Array Value} {s : State} {ty : FieldType} (h : (Cond.arrayClass ty).before args s = true) : ∃ cA : ClassId, ArrOfT s cA ty ∧ s.vm.findClass ("[" ++ ty.toString) = some cA := by
  obtain ⟨cA, kA, comp, h1, h2, h3⟩ := Cond.arrayClass_spec h
  exact ⟨cA, fun n z => ⟨fun k h => (by cases h), kA, h2, comp, h3⟩, h1⟩
theorem arr_over {args : Array Value} {s : State} (h : (Cond.arrayOver (.array .int)).before args s = true) : ∃ cA : ClassId, ArrOfT s cA (.array .int) ∧ s.vm.findClass ("[" ++ (FieldType.array .int).toString) = some cA := by
  obtain ⟨comp, cA, kA, h1, h2, h3, h4, h5⟩ := arrayOverA_spec h
  exact ⟨cA, fun n z => ⟨fun k h => (by cases h), kA, h3, comp, h4⟩, h5⟩
theorem flags_no {l : Launch} (h : l.flags = flags0) : l.stackTraces = false := by
  unfold Launch.stackTraces
  rw [h]
  decide +kernel
set_option maxHeartbeats 8000000 in
set_option maxRecDepth 100000 in
theorem law_start {p : Program} {l : Launch} {e : Env} {s : State} {m : MethodId} {below : List Frame} {meth : Method} {c : Code} {b L : Nat} {xs : Nat → Int32} {Q : State → Prop} (hflags : l.flags = flags0) (hL : L ≤ 1536) (hx : p.tables.exec = Jvm.exec) (hb : c.code = cL_law) (hml : c.maxLocals = 7) (hown : s.vm.findClass RL = some m.cls) (hts : ∀ w ∈ lw_tbl, w.before #[Value.ref b] s = true) (hXs : va_X b L xs s s.heap) (hbl : b < s.heap.size) (hgv : (Jvm.Cond.and given_1 narrow_1).before #[Value.ref b] s = true) (kend : ∀ (H : Heap) (locs : List Loc) (ls : Array Slot) (cells slots : Nat), (∀ q ∈ locs, s.heap.size ≤ q.base) → cells ≤ 601024 → slots ≤ 7293034 → W p l e room_1 s m #[Value.ref b] below meth c H locs cells slots Q (F0 m 1117 ls [])) : W p l e room_1 s m #[Value.ref b] below meth c s.heap [] 0 0 Q (entryFrame m ([Value.ref b] : List Value).toArray 7) := by
  have hfl := flags_no hflags
  have hsn := flat_of_before _ hgv
  have htsL : ∀ w ∈ wsL_law, w.before #[Value.ref b] s = true := fun w h => hts w (lin_all w h)
  have hA : ∀ q : Nat, s.heap.size ≤ q → (fun q : Nat => s.heap.size ≤ q) q := fun _ h => h
  have hbA : ¬ (fun q : Nat => s.heap.size ≤ q) b := Nat.not_le.mpr hbl
  obtain ⟨c0, iS0, hKn0⟩ := u_known (C := RX0) (T := TX0) (N := 2) (n := 2) hts lin_X0 (hts _ in_0)
  obtain ⟨c1, iS1, hKn1⟩ := u_known (C := RX2) (T := TX2) (N := 3) (n := 3) hts lin_X2 (hts _ in_2)
  obtain ⟨c2, iS2, hKn2⟩ := u_known (C := RX3) (T := TX3) (N := 13) (n := 13) hts lin_X3 (hts _ in_3)
  obtain ⟨c3, iS3, hKn3⟩ := u_known (C := RX4) (T := TX4) (N := 14) (n := 14) hts lin_X4 (hts _ in_4)
  obtain ⟨D, hKc⟩ : ∃ D : va_G, ∀ (k : Nat) (q : vw_C), vwCl[k]? = some q → u_Kn s q.1 q.2.1 q.2.2 (D.1 k) (D.2 k) := by
    refine ⟨(fun k => if k = 0 then c0 else if k = 1 then c1 else if k = 2 then c2 else c3, fun k => if k = 0 then iS0 else if k = 1 then iS1 else if k = 2 then iS2 else iS3), ?_⟩
    intro k q hq
    match k, hq with
    | 0, hq => cases hq; exact hKn0
    | 1, hq => cases hq; exact hKn1
    | 2, hq => cases hq; exact hKn2
    | 3, hq => cases hq; exact hKn3
    | k + 4, hq => simp [vwCl] at hq
  obtain ⟨cI, hI1, hI2⟩ := arr_of (hts _ ac_int)
  obtain ⟨cZ, hZ1, hZ2⟩ := arr_of (hts _ ac_bool)
  obtain ⟨cL, hL1, hL2⟩ := arr_of (hts _ ac_long)
  obtain ⟨cQ, hQ1, hQ2⟩ := arr_over (hts _ ao_in)
  have hK : va_K D vwCl (TY cI cZ cQ cL) s := ⟨hKc, fun k q h => by
    match k, h with
    | 0, h => cases h; exact ⟨hI1, hI2⟩
    | 1, h => cases h; exact ⟨hZ1, hZ2⟩
    | 2, h => cases h; exact ⟨hQ1, hQ2⟩
    | 3, h => cases h; exact ⟨hL1, hL2⟩
    | k + 4, h => simp [TY] at h⟩
  have hN : NK s := fun w hw => va_Nw.of (nest_on w hw) (hts w (nest_in w hw))
  have hAK : AK s := AK_of (hts _ ao_in)
  obtain ⟨cC, kC, hfc, -⟩ := Cond.instantiable_spec (hts _ in_3)
  have hXK : XK s.heap.size s := ⟨vx_Zqof (hts _ la_in1) (hts _ ti_in) (hsn _ st_in1) (fun a h1 h2 => by omega), vx_Zqof (hts _ la_in2) (hts _ ti_in) (hsn _ st_in2) (fun a h1 h2 => by omega), fun q hq => by
    have h9 := hts _ (str_in q hq)
    obtain ⟨k, cf, i, a, -, -, -, -, -, he⟩ := Cond.stringRef_spec hfc h9
    exact ⟨a, vk_R.of h9 he⟩, fun q hq => va_Nc.of (hsn _ (nc_in q hq)), fun w hw => va_Nw.of (cstW_on w hw) (hts w (cst_in w hw))⟩
  have hS : va_S (fun q : Nat => s.heap.size ≤ q) s.heap s.heap [] := va_S.rf
  have hP : va_P D vwCl ([] : va_W) s.heap := fun k q h => by simp at h
  have hD : va_D (fun q : Nat => s.heap.size ≤ q) ([] : va_W) := ⟨fun i j p q h => by simp at h, fun k q h => by simp at h⟩
  have hl := lv_entry ([.ref b]) (n := 7) (Nat.le_of_ble_eq_true rfl)
  rw [lg_entry_eq]
  generalize (lg_sl ([.ref b]) ++ List.replicate (7 - (lg_sl ([.ref b])).length) Slot.unset).toArray = ls at hl ⊢
  have hl : lv_has ls 7 [(0, .ref b)] := hl
  refine va_new (ci := 2) (fs := [.null, .int (nI (0)), .int (nI (0)), .int (nI (0)), .int (nI (0)), .int (nI (0)), .null, .null, .null, .null, .null, .null, .null]) (C := RX3) (T := TX3) (N := 13) hx hb hts lin_X3 tyX3 tyX3_ok hown (hts _ cl_3) (hts _ in_3) (hts _ ii_3) hK hP hD hS hA rfl (fun j hj => by rcases (show j = 0 ∨ j = 1 ∨ j = 2 ∨ j = 3 ∨ j = 4 ∨ j = 5 ∨ j = 6 ∨ j = 7 ∨ j = 8 ∨ j = 9 ∨ j = 10 ∨ j = 11 ∨ j = 12 by omega) with rfl | rfl | rfl | rfl | rfl | rfl | rfl | rfl | rfl | rfl | rfl | rfl | rfl <;> rfl) (Nat.le_of_ble_eq_true rfl) (Nat.le_of_ble_eq_true rfl) dL_law_0 (fun q0 H hP hD hS => ?_)
  have hP : va_P D vwCl (([(q0, .inr (2, [.null, .int (nI (0)), .int (nI (0)), .int (nI (0)), .int (nI (0)), .int (nI (0)), .null, .null, .null, .null, .null, .null, .null]))] : va_W) ++ []) H := hP
  have hD : va_D (fun q : Nat => s.heap.size ≤ q) (([(q0, .inr (2, [.null, .int (nI (0)), .int (nI (0)), .int (nI (0)), .int (nI (0)), .int (nI (0)), .null, .null, .null, .null, .null, .null, .null]))] : va_W) ++ []) := hD
  refine lv_dup hx hb dL_law_3 rfl ?_
  refine j_cv (wc := ([(q0, .inr (2, [.null, .int (nI (0)), .int (nI (0)), .int (nI (0)), .int (nI (0)), .int (nI (0)), .null, .null, .null, .null, .null, .null, .null]))] : va_W)) (pl := []) (w1 := fun u : Nat → Nat => (wF cI cZ cQ u 3 0 0 0 0 (fun _ => 0) (fun _ => 0) (fun _ => 0) (fun _ => 0) (fun _ => 0) 4 (idp 4 (fun _ => 0)) (zrv 4 (fun _ => 0)) 0 (fun _ => 0) (fun _ => 0) 0 (fun _ _ => 0))) (va_runI (As := []) (rest := [.ref q0]) ⟨hx, hb, hml, hown, htsL⟩ (c_X3_init l D cI cZ cQ cL q0 H.size) (cwI 0 htsL gL_law_X3_init rfl rfl rfl (hts _ ii_3) (hts _ ml_3) (hts _ im_3) rfl hd_X3_init ⟨Nat.le_of_ble_eq_true rfl, Nat.le_of_ble_eq_true rfl⟩) (PA_s (jP_l hP) hK (jD_l hD) hN hAK) rfl rfl hl.1 rfl (lv_room (Nat.le_of_ble_eq_true rfl)) dL_law_4 ⟨Nat.le_of_ble_eq_true rfl, Nat.le_of_ble_eq_true rfl⟩) hP hD hS hA (fun ad H9 locs9 hu hP9 hD9 hS9 => ?_)
  subst hu
  have hP : va_P D vwCl (wF cI cZ cQ ad 3 0 0 0 0 (fun _ => 0) (fun _ => 0) (fun _ => 0) (fun _ => 0) (fun _ => 0) 4 (idp 4 (fun _ => 0)) (zrv 4 (fun _ => 0)) 0 (fun _ => 0) (fun _ => 0) 0 (fun _ _ => 0)) H9 := jP_l hP9
  have hD : va_D (fun q : Nat => s.heap.size ≤ q) (wF cI cZ cQ ad 3 0 0 0 0 (fun _ => 0) (fun _ => 0) (fun _ => 0) (fun _ => 0) (fun _ => 0) 4 (idp 4 (fun _ => 0)) (zrv 4 (fun _ => 0)) 0 (fun _ => 0) (fun _ => 0) 0 (fun _ _ => 0)) := jD_l hD9
  have hS := hS9
  refine lv_astore_n (lv' := [(1, .ref (ad 0)), (0, .ref b)]) hx hb dL_law_7 rfl hl (by decide) rfl (fun ls hl => ?_)
  refine va_new (ci := 3) (fs := [.int (nI (0)), .int (nI (0)), .null, .int (nI (0)), .int (nI (0)), .null, .null, .null, .null, .null, .int (nI (0)), .int (nI (0)), .int (nI (0)), .null]) (C := RX4) (T := TX4) (N := 14) hx hb hts lin_X4 tyX4 tyX4_ok hown (hts _ cl_4) (hts _ in_4) (hts _ ii_4) hK hP hD hS hA rfl (fun j hj => by rcases (show j = 0 ∨ j = 1 ∨ j = 2 ∨ j = 3 ∨ j = 4 ∨ j = 5 ∨ j = 6 ∨ j = 7 ∨ j = 8 ∨ j = 9 ∨ j = 10 ∨ j = 11 ∨ j = 12 ∨ j = 13 by omega) with rfl | rfl | rfl | rfl | rfl | rfl | rfl | rfl | rfl | rfl | rfl | rfl | rfl | rfl <;> rfl) (Nat.le_of_ble_eq_true rfl) (Nat.le_of_ble_eq_true rfl) dL_law_8 (fun q1 H hP hD hS => ?_)
  have hP : va_P D vwCl (([(q1, .inr (3, [.int (nI (0)), .int (nI (0)), .null, .int (nI (0)), .int (nI (0)), .null, .null, .null, .null, .null, .int (nI (0)), .int (nI (0)), .int (nI (0)), .null]))] : va_W) ++ (wF cI cZ cQ ad 3 0 0 0 0 (fun _ => 0) (fun _ => 0) (fun _ => 0) (fun _ => 0) (fun _ => 0) 4 (idp 4 (fun _ => 0)) (zrv 4 (fun _ => 0)) 0 (fun _ => 0) (fun _ => 0) 0 (fun _ _ => 0))) H := jP_w hP
  have hD : va_D (fun q : Nat => s.heap.size ≤ q) (([(q1, .inr (3, [.int (nI (0)), .int (nI (0)), .null, .int (nI (0)), .int (nI (0)), .null, .null, .null, .null, .null, .int (nI (0)), .int (nI (0)), .int (nI (0)), .null]))] : va_W) ++ (wF cI cZ cQ ad 3 0 0 0 0 (fun _ => 0) (fun _ => 0) (fun _ => 0) (fun _ => 0) (fun _ => 0) 4 (idp 4 (fun _ => 0)) (zrv 4 (fun _ => 0)) 0 (fun _ => 0) (fun _ => 0) 0 (fun _ _ => 0))) := jD_w hD
  refine lv_dup hx hb dL_law_11 rfl ?_
  refine j_cv (wc := ([(q1, .inr (3, [.int (nI (0)), .int (nI (0)), .null, .int (nI (0)), .int (nI (0)), .null, .null, .null, .null, .null, .int (nI (0)), .int (nI (0)), .int (nI (0)), .null]))] : va_W)) (pl := (wF cI cZ cQ ad 3 0 0 0 0 (fun _ => 0) (fun _ => 0) (fun _ => 0) (fun _ => 0) (fun _ => 0) 4 (idp 4 (fun _ => 0)) (zrv 4 (fun _ => 0)) 0 (fun _ => 0) (fun _ => 0) 0 (fun _ _ => 0))) (w1 := fun u : Nat → Nat => (wM cI cZ u 4 3 (fun _ => 0) 0 0 (fun _ => 0) (fun _ => 0) (fun _ => 0) (fun _ => 0) (fun _ => 0) 0 0 0 (fun _ => 0))) (va_runI (As := []) (rest := [.ref q1]) ⟨hx, hb, hml, hown, htsL⟩ (c_X4_init l D cI cZ cQ cL q1 H.size) (cwI 0 htsL gL_law_X4_init rfl rfl rfl (hts _ ii_4) (hts _ ml_4) (hts _ im_4) rfl hd_X4_init ⟨Nat.le_of_ble_eq_true rfl, Nat.le_of_ble_eq_true rfl⟩) (PW_s (jP_l hP) hK (jD_l hD) hN) rfl rfl hl.1 rfl (lv_room (Nat.le_of_ble_eq_true rfl)) dL_law_12 ⟨Nat.le_of_ble_eq_true rfl, Nat.le_of_ble_eq_true rfl⟩) hP hD hS hA (fun am H8 locs8 hu hP8 hD8 hS8 => ?_)
  subst hu
  have hP : va_P D vwCl ((wF cI cZ cQ ad 3 0 0 0 0 (fun _ => 0) (fun _ => 0) (fun _ => 0) (fun _ => 0) (fun _ => 0) 4 (idp 4 (fun _ => 0)) (zrv 4 (fun _ => 0)) 0 (fun _ => 0) (fun _ => 0) 0 (fun _ _ => 0)) ++ (wM cI cZ am 4 3 (fun _ => 0) 0 0 (fun _ => 0) (fun _ => 0) (fun _ => 0) (fun _ => 0) (fun _ => 0) 0 0 0 (fun _ => 0))) H8 := jP_w hP8
  have hD : va_D (fun q : Nat => s.heap.size ≤ q) ((wF cI cZ cQ ad 3 0 0 0 0 (fun _ => 0) (fun _ => 0) (fun _ => 0) (fun _ => 0) (fun _ => 0) 4 (idp 4 (fun _ => 0)) (zrv 4 (fun _ => 0)) 0 (fun _ => 0) (fun _ => 0) 0 (fun _ _ => 0)) ++ (wM cI cZ am 4 3 (fun _ => 0) 0 0 (fun _ => 0) (fun _ => 0) (fun _ => 0) (fun _ => 0) (fun _ => 0) 0 0 0 (fun _ => 0))) := jD_w hD8
  have hS := hS8
  refine lv_astore_n (lv' := [(2, .ref (am 0)), (1, .ref (ad 0)), (0, .ref b)]) hx hb dL_law_15 rfl hl (by decide) rfl (fun ls hl => ?_)
  refine lv_iconst (v := nI (1)) hx hb dL_law_16 (by decide) ?_
  refine va_newa (atype := .long) hx hb (hts _ ac_long) rfl hK hP hD hS hA (a0 := (1, .inr (.inl (fun _ => 0)))) (fun c9 => by rw [vp_cell_l]; rfl) (by decide) (by decide) (by decide) (Nat.le_of_ble_eq_true rfl) (Nat.le_of_ble_eq_true rfl) dL_law_17 (fun q cA H hK2 hP hD hS => ?_)
  have eA : cL = cA := (tys_L hK hK2).symm
  subst eA
  have hP := jP_w hP
  have hD := jD_w hD
  have hP : va_P D vwCl ((wL cL q (fun _ => 0) ((wA cI cZ ad 3 0 0 0 0 (fun _ => 0) (fun _ => 0) (fun _ => 0) (fun _ => 0) (fun _ => 0) 4 (idp 4 (fun _ => 0)) (zrv 4 (fun _ => 0))) ++ (wK cI cQ ad 0 (fun _ => 0) (fun _ => 0) 0 (fun _ _ => 0)))) ++ (wM cI cZ am 4 3 (fun _ => 0) 0 0 (fun _ => 0) (fun _ => 0) (fun _ => 0) (fun _ => 0) (fun _ => 0) 0 0 0 (fun _ => 0))) H := hP
  have hD : va_D (fun q : Nat => s.heap.size ≤ q) ((wL cL q (fun _ => 0) ((wA cI cZ ad 3 0 0 0 0 (fun _ => 0) (fun _ => 0) (fun _ => 0) (fun _ => 0) (fun _ => 0) 4 (idp 4 (fun _ => 0)) (zrv 4 (fun _ => 0))) ++ (wK cI cQ ad 0 (fun _ => 0) (fun _ => 0) 0 (fun _ _ => 0)))) ++ (wM cI cZ am 4 3 (fun _ => 0) 0 0 (fun _ => 0) (fun _ => 0) (fun _ => 0) (fun _ => 0) (fun _ => 0) 0 0 0 (fun _ => 0))) := hD
  have hP : va_P D vwCl ((wL cL q (fun _ => 0) (wA cI cZ ad 3 0 0 0 0 (fun _ => 0) (fun _ => 0) (fun _ => 0) (fun _ => 0) (fun _ => 0) 4 (idp 4 (fun _ => 0)) (zrv 4 (fun _ => 0)))) ++ ((wK cI cQ ad 0 (fun _ => 0) (fun _ => 0) 0 (fun _ _ => 0)) ++ (wM cI cZ am 4 3 (fun _ => 0) 0 0 (fun _ => 0) (fun _ => 0) (fun _ => 0) (fun _ => 0) (fun _ => 0) 0 0 0 (fun _ => 0)))) H := jP_K hP
  have hD : va_D (fun q : Nat => s.heap.size ≤ q) ((wL cL q (fun _ => 0) (wA cI cZ ad 3 0 0 0 0 (fun _ => 0) (fun _ => 0) (fun _ => 0) (fun _ => 0) (fun _ => 0) 4 (idp 4 (fun _ => 0)) (zrv 4 (fun _ => 0)))) ++ ((wK cI cQ ad 0 (fun _ => 0) (fun _ => 0) 0 (fun _ _ => 0)) ++ (wM cI cZ am 4 3 (fun _ => 0) 0 0 (fun _ => 0) (fun _ => 0) (fun _ => 0) (fun _ => 0) (fun _ => 0) 0 0 0 (fun _ => 0)))) := jD_K hD
  refine lv_astore_n (lv' := [(3, .ref q), (2, .ref (am 0)), (1, .ref (ad 0)), (0, .ref b)]) hx hb dL_law_19 rfl hl (by decide) rfl (fun ls hl => ?_)
  refine lv_iconst (v := nI (0)) hx hb dL_law_20 (by decide) ?_
  refine lv_istore (lv' := [(4, .int (nI (0))), (3, .ref q), (2, .ref (am 0)), (1, .ref (ad 0)), (0, .ref b)]) hx hb dL_law_21 hl (by decide) rfl (fun ls hl => ?_)
  refine W.widen (k := 100 + 0) (n := 1000 + 6 * 0) (by decide) (by decide) ?_
  exact law_loop hfl hL hx hb hml hown htsL hXs hbl hK hN hXK kend (L + 1) 0 (by omega) (Nat.zero_le _) (fun _ => 0) 3 0 0 0 0 (fun _ => 0) (fun _ => 0) (fun _ => 0) (fun _ => 0) (fun _ => 0) 4 (idp 4 (fun _ => 0)) (zrv 4 (fun _ => 0)) 0 (fun _ => 0) (fun _ => 0) 0 (fun _ _ => 0) (fun _ => 0) 0 (fun _ => 0) LI_0 _ _ hP hD hS ls (lv_sub hl [4, 3, 2, 1, 0] rfl)
